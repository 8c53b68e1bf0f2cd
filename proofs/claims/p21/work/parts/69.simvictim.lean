/-! PRINTED by wip/gen21/sim.py: 69.simvictim -/
def f_S_victim_l1 (k : Nat) : Nat → Nat → Int32 → Int32 → gI → Int32
  | 0, i, a, b, I =>
    a
  | n + 1, i, a, b, I =>
    if (nI n) = (nI k) then
      f_S_victim_l1 k n (i + 1) a b I
    else
      if (nI (rln (I 5) 3 n)) = 0 then
        f_S_victim_l1 k n (i + 1) a b I
      else
        if (I 5 2 k 1) = 0 then
          if b ≤ ((nI (cnt (I 5) 2)) - ((((nI n) - (nI k)) + (nI (cnt (I 5) 2))) - (((nI n) - (nI k)) + (nI (cnt (I 5) 2))) / (nI (cnt (I 5) 2)) * (nI (cnt (I 5) 2)))) then
            f_S_victim_l1 k n (i + 1) (nI n) ((nI (cnt (I 5) 2)) - ((((nI n) - (nI k)) + (nI (cnt (I 5) 2))) - (((nI n) - (nI k)) + (nI (cnt (I 5) 2))) / (nI (cnt (I 5) 2)) * (nI (cnt (I 5) 2)))) I
          else
            f_S_victim_l1 k n (i + 1) a b I
        else
          if (I 5 2 k 1) = 1 then
            if b ≤ (nI (rln (I 5) 3 n)) then
              f_S_victim_l1 k n (i + 1) (nI n) (nI (rln (I 5) 3 n)) I
            else
              f_S_victim_l1 k n (i + 1) a b I
          else
            if b ≤ (I 5 5 ((I 5 3 n (((nI (rln (I 5) 3 n)) - 1).toNatClampNeg)).toNatClampNeg) 0) then
              f_S_victim_l1 k n (i + 1) (nI n) (I 5 5 ((I 5 3 n (((nI (rln (I 5) 3 n)) - 1).toNatClampNeg)).toNatClampNeg) 0) I
            else
              f_S_victim_l1 k n (i + 1) a b I
def ok_f_S_victim_l1 (k : Nat) : Nat → Nat → Int32 → Int32 → gI → Prop
  | 0, i, a, b, I =>
    True
  | n + 1, i, a, b, I =>
    (((nI n) = (nI k)) →
      ok_f_S_victim_l1 k n (i + 1) a b I) ∧
    (¬ ((nI n) = (nI k)) →
      vp_in (nI n) (cnt (I 5) 3) ∧
      (((nI (rln (I 5) 3 n)) = 0) →
        ok_f_S_victim_l1 k n (i + 1) a b I) ∧
      (¬ ((nI (rln (I 5) 3 n)) = 0) →
        ¬ (nI (cnt (I 5) 2)) = 0 ∧
        (((I 5 2 k 1) = 0) →
          ((b ≤ ((nI (cnt (I 5) 2)) - ((((nI n) - (nI k)) + (nI (cnt (I 5) 2))) - (((nI n) - (nI k)) + (nI (cnt (I 5) 2))) / (nI (cnt (I 5) 2)) * (nI (cnt (I 5) 2))))) →
            ok_f_S_victim_l1 k n (i + 1) (nI n) ((nI (cnt (I 5) 2)) - ((((nI n) - (nI k)) + (nI (cnt (I 5) 2))) - (((nI n) - (nI k)) + (nI (cnt (I 5) 2))) / (nI (cnt (I 5) 2)) * (nI (cnt (I 5) 2)))) I) ∧
          (¬ (b ≤ ((nI (cnt (I 5) 2)) - ((((nI n) - (nI k)) + (nI (cnt (I 5) 2))) - (((nI n) - (nI k)) + (nI (cnt (I 5) 2))) / (nI (cnt (I 5) 2)) * (nI (cnt (I 5) 2))))) →
            ok_f_S_victim_l1 k n (i + 1) a b I)) ∧
        (¬ ((I 5 2 k 1) = 0) →
          (((I 5 2 k 1) = 1) →
            ((b ≤ (nI (rln (I 5) 3 n))) →
              ok_f_S_victim_l1 k n (i + 1) (nI n) (nI (rln (I 5) 3 n)) I) ∧
            (¬ (b ≤ (nI (rln (I 5) 3 n))) →
              ok_f_S_victim_l1 k n (i + 1) a b I)) ∧
          (¬ ((I 5 2 k 1) = 1) →
            vp_in ((nI (rln (I 5) 3 n)) - 1) (rln (I 5) 3 n) ∧
            vp_in (I 5 3 n (((nI (rln (I 5) 3 n)) - 1).toNatClampNeg)) (cnt (I 5) 5) ∧
            ((b ≤ (I 5 5 ((I 5 3 n (((nI (rln (I 5) 3 n)) - 1).toNatClampNeg)).toNatClampNeg) 0)) →
              ok_f_S_victim_l1 k n (i + 1) (nI n) (I 5 5 ((I 5 3 n (((nI (rln (I 5) 3 n)) - 1).toNatClampNeg)).toNatClampNeg) 0) I) ∧
            (¬ (b ≤ (I 5 5 ((I 5 3 n (((nI (rln (I 5) 3 n)) - 1).toNatClampNeg)).toNatClampNeg) 0)) →
              ok_f_S_victim_l1 k n (i + 1) a b I)))))
def f_S_victim (I : gI) (k : Nat) : Int32 :=
  f_S_victim_l1 k (cnt (I 5) 2) 0 (-1) (-1) I
def ok_S_victim (I : gI) (k : Nat) : Prop :=
  ok_f_S_victim_l1 k (cnt (I 5) 2) 0 (-1) (-1) I
set_option maxHeartbeats 4000000 in
set_option maxRecDepth 100000 in
theorem m_S_victim (l : Launch) (E : gE) (F : Nat → Prop) (J : Int64) (D : sD) (I : gI) (k : Nat) (hA : ∀ q, F q → gN E ≤ q) (hk : k < cnt (I 5) 2) (hok : ok_S_victim I k) : sM l E yX5_victim cX5_victim 8 (some .int) 0 0 0 0 [.ref (D 0 0), .int (nI k)] (fun H => LW E F J D I H) (sQi E F J D I (f_S_victim I k)) F := by
  refine s_entry (lv := [(0, .ref (D 0 0)), (1, .int (nI k))]) (by decide) (Nat.le_of_ble_eq_true rfl) rfl ?_
  intro p e s m below meth c0 ls K hAO hG hS hml hr hlocks hl
  have hG : LW E F J D I s.heap := hG
  have K : kx E p m c0 cX5_victim "HayThievesLaw$Sim" _ s := K
  have hx := K.1
  have hb := K.2.1
  have hts := K.2.2.1
  have hown := K.2.2.2.1
  have hSt := K.2.2.2.2
  unfold ok_S_victim at hok
  refine lv_iconst (v := (-1)) hx hb dX5_victim_0 (by decide) ?_
  refine lv_istore_n (lv' := [(2, .int (-1)), (0, .ref (D 0 0)), (1, .int (nI k))]) hx hb dX5_victim_1 rfl hl (by decide) rfl (fun ls hl => ?_)
  refine lv_iconst (v := (-1)) hx hb dX5_victim_2 (by decide) ?_
  refine lv_istore_n (lv' := [(3, .int (-1)), (2, .int (-1)), (0, .ref (D 0 0)), (1, .int (nI k))]) hx hb dX5_victim_3 rfl hl (by decide) rfl (fun ls hl => ?_)
  refine lv_aload_n hx hb dX5_victim_4 rfl (lv_at hl 2 rfl) ?_
  refine sg_X5_15 K hG dX5_victim_5 ?_
  refine s_alen1 K hG (t := 2) (by decide) dX5_victim_8 ?_
  rw [hG.b.c 2, (show ∀ t, cnt (I 5) t = cnt (I 5) t from fun _ => rfl)]
  refine lv_iconst (v := 1) hx hb dX5_victim_9 (by decide) ?_
  refine lv_isub hx hb dX5_victim_10 ?_
  refine lv_istore (lv' := [(4, .int ((nI (cnt (I 5) 2)) - 1)), (3, .int (-1)), (2, .int (-1)), (0, .ref (D 0 0)), (1, .int (nI k))]) hx hb dX5_victim_11 hl (by decide) rfl (fun ls hl => ?_)
  have hL : ∀ (n i : Nat) (a : Int32) (b : Int32) (H : Heap) (locs : List Loc) (ls : Array Slot), i + n = cnt (I 5) 2 → f_S_victim_l1 k n i a b I = (f_S_victim I k) → ok_f_S_victim_l1 k n i a b I → LW E F J D I H → va_S F s.heap H locs → lv_has ls 8 [(4, .int (nI n - 1)), (2, .int a), (3, .int b), (0, .ref (D 0 0)), (1, .int (nI k))] → W p l e (rmc 0 0 0 0) s m ([.ref (D 0 0), .int (nI k)] : List Value).toArray below meth c0 H locs 0 0 (MQ below (sQi E F J D I (f_S_victim I k)) ([.ref (D 0 0), .int (nI k)] : List Value).toArray s 0 0 F) (F0 m 13 ls []) := by
    intro n
    induction n with
    | zero =>
      intro i a b H locs ls hin hT hok hG hS hl
      unfold ok_f_S_victim_l1 at hok
      rw [show (nI 0 : Int32) - 1 = -1 from by decide] at hl
      refine lv_iload hx hb dX5_victim_13 (lv_at hl 0 rfl) ?_
      refine lv_if_lt (tgt := 143) hx hb dX5_victim_15 (by decide) (fun c1 => ?_) (fun c1 => ?_)
      · skip
        refine lv_iload_n hx hb dX5_victim_143 rfl (lv_at hl 1 rfl) ?_
        exact s_iret K hG hS hr hlocks (by rw [← hT]; simp only [f_S_victim_l1, if_pos c1]) dX5_victim_144
      · exact absurd (by decide) c1
    | succ n ih =>
      intro i a b H locs ls hin hT hok hG hS hl
      unfold ok_f_S_victim_l1 at hok
      rw [show (nI (n + 1) : Int32) - 1 = nI n from (zc_sub1 (by omega)).trans (by rw [Nat.add_sub_cancel])] at hl
      refine lv_iload hx hb dX5_victim_13 (lv_at hl 0 rfl) ?_
      refine lv_if_lt (tgt := 143) hx hb dX5_victim_15 (by decide) (fun c2 => ?_) (fun c2 => ?_)
      · exact absurd c2 (nI_pos (by have := hG.b.cl 2; omega))
      · skip
        refine lv_iload hx hb dX5_victim_18 (lv_at hl 0 rfl) ?_
        refine lv_iload_n hx hb dX5_victim_20 rfl (lv_at hl 4 rfl) ?_
        refine lv_icmp_eq (tgt := 137) hx hb dX5_victim_21 (by decide) (fun c3 => ?_) (fun c3 => ?_)
        · have hok := hok.1 c3
          refine lv_iinc (v := ((nI n) - 1)) (lv' := [(4, .int ((nI n) - 1)), (2, .int a), (3, .int b), (0, .ref (D 0 0)), (1, .int (nI k))]) hx hb dX5_victim_137 hl (k := 0) rfl (by rw [Int32.sub_eq_add_neg]; rfl) (by decide) rfl (fun ls hl => ?_)
          refine lv_goto (tgt := 13) hx hb dX5_victim_140 (by decide) ?_
          exact ih (i + 1) a b _ _ _ (by omega) (by rw [← hT]; simp only [f_S_victim_l1, if_neg c2, if_pos c3]) hok hG hS (lv_sub hl [0, 1, 2, 3, 4] rfl)
        · have hok := hok.2 c3
          refine lv_aload_n hx hb dX5_victim_24 rfl (lv_at hl 3 rfl) ?_
          refine sg_X5_19 K hG dX5_victim_25 ?_
          refine lv_iload hx hb dX5_victim_28 (lv_at hl 0 rfl) ?_
          obtain ⟨ho4, hok⟩ := hok
          refine s_aald K hG (t := 3) (by decide) (by rw [(show ∀ t, cnt (I 5) t = cnt (I 5) t from fun _ => rfl)]; exact ho4) dX5_victim_30 ?_
          rw [nI_clamp (by have := hG.b.cl 2; omega)]
          refine s_alen K hG (t := 3) (by decide) (cv (show ∀ t, cnt (I 5) t = cnt (I 5) t from fun _ => rfl) (show n < _ from by have := vp_lt ho4; rw [nI_clamp (by have := hG.b.cl 2; omega)] at this; exact this)) rfl dX5_victim_31 ?_
          rw [(show ∀ t i, rln (I 5) t i = rln (I 5) t i from fun _ _ => rfl)]
          refine lv_if_ne (tgt := 38) hx hb dX5_victim_32 (by decide) (fun c5 => ?_) (fun c5 => ?_)
          · have hok := hok.2 c5
            refine lv_aload_n hx hb dX5_victim_38 rfl (lv_at hl 3 rfl) ?_
            refine sg_X5_19 K hG dX5_victim_39 ?_
            refine lv_iload hx hb dX5_victim_42 (lv_at hl 0 rfl) ?_
            refine s_aald K hG (t := 3) (by decide) (vp_in_nI (cv (show ∀ t, cnt (I 5) t = cnt (I 5) t from fun _ => rfl) (show n < _ from by have := vp_lt ho4; rw [nI_clamp (by have := hG.b.cl 2; omega)] at this; exact this)) (by have := hG.b.cl 3; omega)) dX5_victim_44 ?_
            rw [nI_clamp (by have := hG.b.cl 2; omega)]
            refine lv_astore (lv' := [(5, .ref (D 3 n)), (4, .int (nI n)), (2, .int a), (3, .int b), (0, .ref (D 0 0)), (1, .int (nI k))]) hx hb dX5_victim_45 hl (by decide) rfl (fun ls hl => ?_)
            refine lv_aload_n hx hb dX5_victim_47 rfl (lv_at hl 4 rfl) ?_
            refine sg_X5_15 K hG dX5_victim_48 ?_
            refine s_alen1 K hG (t := 2) (by decide) dX5_victim_51 ?_
            rw [hG.b.c 2, (show ∀ t, cnt (I 5) t = cnt (I 5) t from fun _ => rfl)]
            refine lv_iload hx hb dX5_victim_52 (lv_at hl 1 rfl) ?_
            refine lv_iload_n hx hb dX5_victim_54 rfl (lv_at hl 5 rfl) ?_
            refine lv_isub hx hb dX5_victim_55 ?_
            refine lv_aload_n hx hb dX5_victim_56 rfl (lv_at hl 4 rfl) ?_
            refine sg_X5_15 K hG dX5_victim_57 ?_
            refine s_alen1 K hG (t := 2) (by decide) dX5_victim_60 ?_
            rw [hG.b.c 2, (show ∀ t, cnt (I 5) t = cnt (I 5) t from fun _ => rfl)]
            refine lv_iadd hx hb dX5_victim_61 ?_
            refine lv_aload_n hx hb dX5_victim_62 rfl (lv_at hl 4 rfl) ?_
            refine sg_X5_15 K hG dX5_victim_63 ?_
            refine s_alen1 K hG (t := 2) (by decide) dX5_victim_66 ?_
            rw [hG.b.c 2, (show ∀ t, cnt (I 5) t = cnt (I 5) t from fun _ => rfl)]
            obtain ⟨ho6, hok⟩ := hok
            refine lv_irem hx hb dX5_victim_67 ho6 ?_
            refine lv_isub hx hb dX5_victim_68 ?_
            refine lv_istore (lv' := [(6, .int ((nI (cnt (I 5) 2)) - ((((nI n) - (nI k)) + (nI (cnt (I 5) 2))) - (((nI n) - (nI k)) + (nI (cnt (I 5) 2))) / (nI (cnt (I 5) 2)) * (nI (cnt (I 5) 2))))), (5, .ref (D 3 n)), (4, .int (nI n)), (2, .int a), (3, .int b), (0, .ref (D 0 0)), (1, .int (nI k))]) hx hb dX5_victim_69 hl (by decide) rfl (fun ls hl => ?_)
            refine lv_aload_n hx hb dX5_victim_71 rfl (lv_at hl 5 rfl) ?_
            refine sg_X5_15 K hG dX5_victim_72 ?_
            refine lv_iload_n hx hb dX5_victim_75 rfl (lv_at hl 6 rfl) ?_
            refine s_aald K hG (t := 2) (by decide) (vp_in_nI (cv (show ∀ t, cnt (I 5) t = cnt (I 5) t from fun _ => rfl) hk) (by have := hG.b.cl 2; omega)) dX5_victim_76 ?_
            rw [nI_clamp (by have := hG.b.cl 2; omega)]
            refine lv_iconst (v := 1) hx hb dX5_victim_77 (by decide) ?_
            refine s_iald K hG (t := 2) (by decide) (cv (show ∀ t, cnt (I 5) t = cnt (I 5) t from fun _ => rfl) hk) (show vp_in (nI 1) 8 from vp_in_nI (by decide) (by decide)) dX5_victim_78 ?_
            rw [show ((1 : Int32)).toNatClampNeg = 1 from rfl]
            refine lv_if_ne (tgt := 87) hx hb dX5_victim_79 (by decide) (fun c7 => ?_) (fun c7 => ?_)
            · have hok := hok.2 c7
              refine lv_aload_n hx hb dX5_victim_87 rfl (lv_at hl 5 rfl) ?_
              refine sg_X5_15 K hG dX5_victim_88 ?_
              refine lv_iload_n hx hb dX5_victim_91 rfl (lv_at hl 6 rfl) ?_
              refine s_aald K hG (t := 2) (by decide) (vp_in_nI (cv (show ∀ t, cnt (I 5) t = cnt (I 5) t from fun _ => rfl) hk) (by have := hG.b.cl 2; omega)) dX5_victim_92 ?_
              rw [nI_clamp (by have := hG.b.cl 2; omega)]
              refine lv_iconst (v := 1) hx hb dX5_victim_93 (by decide) ?_
              refine s_iald K hG (t := 2) (by decide) (cv (show ∀ t, cnt (I 5) t = cnt (I 5) t from fun _ => rfl) hk) (show vp_in (nI 1) 8 from vp_in_nI (by decide) (by decide)) dX5_victim_94 ?_
              rw [show ((1 : Int32)).toNatClampNeg = 1 from rfl]
              refine lv_iconst (v := 1) hx hb dX5_victim_95 (by decide) ?_
              refine lv_icmp_ne (tgt := 105) hx hb dX5_victim_96 (by decide) (fun c8 => ?_) (fun c8 => ?_)
              · have hok := hok.2 c8
                refine lv_aload_n hx hb dX5_victim_105 rfl (lv_at hl 5 rfl) ?_
                refine sg_X5_25 K hG dX5_victim_106 ?_
                refine lv_aload hx hb dX5_victim_109 (lv_at hl 1 rfl) ?_
                refine lv_aload hx hb dX5_victim_111 (lv_at hl 1 rfl) ?_
                refine s_alen K hG (t := 3) (by decide) (cv (show ∀ t, cnt (I 5) t = cnt (I 5) t from fun _ => rfl) (show n < _ from by have := vp_lt ho4; rw [nI_clamp (by have := hG.b.cl 2; omega)] at this; exact this)) rfl dX5_victim_113 ?_
                rw [(show ∀ t i, rln (I 5) t i = rln (I 5) t i from fun _ _ => rfl)]
                refine lv_iconst (v := 1) hx hb dX5_victim_114 (by decide) ?_
                refine lv_isub hx hb dX5_victim_115 ?_
                obtain ⟨ho9, hok⟩ := hok
                refine s_iald K hG (t := 3) (by decide) (cv (show ∀ t, cnt (I 5) t = cnt (I 5) t from fun _ => rfl) (show n < _ from by have := vp_lt ho4; rw [nI_clamp (by have := hG.b.cl 2; omega)] at this; exact this)) (by rw [(show ∀ t i, rln (I 5) t i = rln (I 5) t i from fun _ _ => rfl)]; exact ho9) dX5_victim_116 ?_
                obtain ⟨ho10, hok⟩ := hok
                refine s_aald K hG (t := 5) (by decide) (by rw [(show ∀ t, cnt (I 5) t = cnt (I 5) t from fun _ => rfl)]; exact ho10) dX5_victim_117 ?_
                refine lv_iconst (v := 0) hx hb dX5_victim_118 (by decide) ?_
                refine s_iald K hG (t := 5) (by decide) (cv (show ∀ t, cnt (I 5) t = cnt (I 5) t from fun _ => rfl) (vp_lt ho10)) (show vp_in (nI 0) 6 from vp_in_nI (by decide) (by decide)) dX5_victim_119 ?_
                rw [show ((0 : Int32)).toNatClampNeg = 0 from rfl]
                refine lv_istore (lv' := [(7, .int (I 5 5 ((I 5 3 n (((nI (rln (I 5) 3 n)) - 1).toNatClampNeg)).toNatClampNeg) 0)), (6, .int ((nI (cnt (I 5) 2)) - ((((nI n) - (nI k)) + (nI (cnt (I 5) 2))) - (((nI n) - (nI k)) + (nI (cnt (I 5) 2))) / (nI (cnt (I 5) 2)) * (nI (cnt (I 5) 2))))), (5, .ref (D 3 n)), (4, .int (nI n)), (2, .int a), (3, .int b), (0, .ref (D 0 0)), (1, .int (nI k))]) hx hb dX5_victim_120 hl (by decide) rfl (fun ls hl => ?_)
                refine lv_iload hx hb dX5_victim_122 (lv_at hl 0 rfl) ?_
                refine lv_iload_n hx hb dX5_victim_124 rfl (lv_at hl 5 rfl) ?_
                refine lv_icmp_ge (tgt := 131) hx hb dX5_victim_125 (by decide) (fun c11 => ?_) (fun c11 => ?_)
                · have hok := hok.1 c11
                  refine lv_iload hx hb dX5_victim_131 (lv_at hl 0 rfl) ?_
                  refine lv_istore_n (lv' := [(3, .int (I 5 5 ((I 5 3 n (((nI (rln (I 5) 3 n)) - 1).toNatClampNeg)).toNatClampNeg) 0)), (7, .int (I 5 5 ((I 5 3 n (((nI (rln (I 5) 3 n)) - 1).toNatClampNeg)).toNatClampNeg) 0)), (6, .int ((nI (cnt (I 5) 2)) - ((((nI n) - (nI k)) + (nI (cnt (I 5) 2))) - (((nI n) - (nI k)) + (nI (cnt (I 5) 2))) / (nI (cnt (I 5) 2)) * (nI (cnt (I 5) 2))))), (5, .ref (D 3 n)), (4, .int (nI n)), (2, .int a), (0, .ref (D 0 0)), (1, .int (nI k))]) hx hb dX5_victim_133 rfl hl (by decide) rfl (fun ls hl => ?_)
                  refine lv_iload hx hb dX5_victim_134 (lv_at hl 4 rfl) ?_
                  refine lv_istore_n (lv' := [(2, .int (nI n)), (3, .int (I 5 5 ((I 5 3 n (((nI (rln (I 5) 3 n)) - 1).toNatClampNeg)).toNatClampNeg) 0)), (7, .int (I 5 5 ((I 5 3 n (((nI (rln (I 5) 3 n)) - 1).toNatClampNeg)).toNatClampNeg) 0)), (6, .int ((nI (cnt (I 5) 2)) - ((((nI n) - (nI k)) + (nI (cnt (I 5) 2))) - (((nI n) - (nI k)) + (nI (cnt (I 5) 2))) / (nI (cnt (I 5) 2)) * (nI (cnt (I 5) 2))))), (5, .ref (D 3 n)), (4, .int (nI n)), (0, .ref (D 0 0)), (1, .int (nI k))]) hx hb dX5_victim_136 rfl hl (by decide) rfl (fun ls hl => ?_)
                  refine lv_iinc (v := ((nI n) - 1)) (lv' := [(4, .int ((nI n) - 1)), (2, .int (nI n)), (3, .int (I 5 5 ((I 5 3 n (((nI (rln (I 5) 3 n)) - 1).toNatClampNeg)).toNatClampNeg) 0)), (7, .int (I 5 5 ((I 5 3 n (((nI (rln (I 5) 3 n)) - 1).toNatClampNeg)).toNatClampNeg) 0)), (6, .int ((nI (cnt (I 5) 2)) - ((((nI n) - (nI k)) + (nI (cnt (I 5) 2))) - (((nI n) - (nI k)) + (nI (cnt (I 5) 2))) / (nI (cnt (I 5) 2)) * (nI (cnt (I 5) 2))))), (5, .ref (D 3 n)), (0, .ref (D 0 0)), (1, .int (nI k))]) hx hb dX5_victim_137 hl (k := 5) rfl (by rw [Int32.sub_eq_add_neg]; rfl) (by decide) rfl (fun ls hl => ?_)
                  refine lv_goto (tgt := 13) hx hb dX5_victim_140 (by decide) ?_
                  exact ih (i + 1) (nI n) (I 5 5 ((I 5 3 n (((nI (rln (I 5) 3 n)) - 1).toNatClampNeg)).toNatClampNeg) 0) _ _ _ (by omega) (by rw [← hT]; simp only [f_S_victim_l1, if_neg c2, if_neg c3, if_neg c5, if_neg c7, if_neg c8, if_pos c11]) hok hG hS (lv_sub hl [0, 1, 2, 6, 7] rfl)
                · have hok := hok.2 c11
                  refine lv_goto (tgt := 137) hx hb dX5_victim_128 (by decide) ?_
                  refine lv_iinc (v := ((nI n) - 1)) (lv' := [(4, .int ((nI n) - 1)), (7, .int (I 5 5 ((I 5 3 n (((nI (rln (I 5) 3 n)) - 1).toNatClampNeg)).toNatClampNeg) 0)), (6, .int ((nI (cnt (I 5) 2)) - ((((nI n) - (nI k)) + (nI (cnt (I 5) 2))) - (((nI n) - (nI k)) + (nI (cnt (I 5) 2))) / (nI (cnt (I 5) 2)) * (nI (cnt (I 5) 2))))), (5, .ref (D 3 n)), (2, .int a), (3, .int b), (0, .ref (D 0 0)), (1, .int (nI k))]) hx hb dX5_victim_137 hl (k := 3) rfl (by rw [Int32.sub_eq_add_neg]; rfl) (by decide) rfl (fun ls hl => ?_)
                  refine lv_goto (tgt := 13) hx hb dX5_victim_140 (by decide) ?_
                  exact ih (i + 1) a b _ _ _ (by omega) (by rw [← hT]; simp only [f_S_victim_l1, if_neg c2, if_neg c3, if_neg c5, if_neg c7, if_neg c8, if_neg c11]) hok hG hS (lv_sub hl [0, 4, 5, 6, 7] rfl)
              · have hok := hok.1 c8
                refine lv_aload hx hb dX5_victim_99 (lv_at hl 1 rfl) ?_
                refine s_alen K hG (t := 3) (by decide) (cv (show ∀ t, cnt (I 5) t = cnt (I 5) t from fun _ => rfl) (show n < _ from by have := vp_lt ho4; rw [nI_clamp (by have := hG.b.cl 2; omega)] at this; exact this)) rfl dX5_victim_101 ?_
                rw [(show ∀ t i, rln (I 5) t i = rln (I 5) t i from fun _ _ => rfl)]
                refine lv_goto (tgt := 120) hx hb dX5_victim_102 (by decide) ?_
                refine lv_istore (lv' := [(7, .int (nI (rln (I 5) 3 n))), (6, .int ((nI (cnt (I 5) 2)) - ((((nI n) - (nI k)) + (nI (cnt (I 5) 2))) - (((nI n) - (nI k)) + (nI (cnt (I 5) 2))) / (nI (cnt (I 5) 2)) * (nI (cnt (I 5) 2))))), (5, .ref (D 3 n)), (4, .int (nI n)), (2, .int a), (3, .int b), (0, .ref (D 0 0)), (1, .int (nI k))]) hx hb dX5_victim_120 hl (by decide) rfl (fun ls hl => ?_)
                refine lv_iload hx hb dX5_victim_122 (lv_at hl 0 rfl) ?_
                refine lv_iload_n hx hb dX5_victim_124 rfl (lv_at hl 5 rfl) ?_
                refine lv_icmp_ge (tgt := 131) hx hb dX5_victim_125 (by decide) (fun c12 => ?_) (fun c12 => ?_)
                · have hok := hok.1 c12
                  refine lv_iload hx hb dX5_victim_131 (lv_at hl 0 rfl) ?_
                  refine lv_istore_n (lv' := [(3, .int (nI (rln (I 5) 3 n))), (7, .int (nI (rln (I 5) 3 n))), (6, .int ((nI (cnt (I 5) 2)) - ((((nI n) - (nI k)) + (nI (cnt (I 5) 2))) - (((nI n) - (nI k)) + (nI (cnt (I 5) 2))) / (nI (cnt (I 5) 2)) * (nI (cnt (I 5) 2))))), (5, .ref (D 3 n)), (4, .int (nI n)), (2, .int a), (0, .ref (D 0 0)), (1, .int (nI k))]) hx hb dX5_victim_133 rfl hl (by decide) rfl (fun ls hl => ?_)
                  refine lv_iload hx hb dX5_victim_134 (lv_at hl 4 rfl) ?_
                  refine lv_istore_n (lv' := [(2, .int (nI n)), (3, .int (nI (rln (I 5) 3 n))), (7, .int (nI (rln (I 5) 3 n))), (6, .int ((nI (cnt (I 5) 2)) - ((((nI n) - (nI k)) + (nI (cnt (I 5) 2))) - (((nI n) - (nI k)) + (nI (cnt (I 5) 2))) / (nI (cnt (I 5) 2)) * (nI (cnt (I 5) 2))))), (5, .ref (D 3 n)), (4, .int (nI n)), (0, .ref (D 0 0)), (1, .int (nI k))]) hx hb dX5_victim_136 rfl hl (by decide) rfl (fun ls hl => ?_)
                  refine lv_iinc (v := ((nI n) - 1)) (lv' := [(4, .int ((nI n) - 1)), (2, .int (nI n)), (3, .int (nI (rln (I 5) 3 n))), (7, .int (nI (rln (I 5) 3 n))), (6, .int ((nI (cnt (I 5) 2)) - ((((nI n) - (nI k)) + (nI (cnt (I 5) 2))) - (((nI n) - (nI k)) + (nI (cnt (I 5) 2))) / (nI (cnt (I 5) 2)) * (nI (cnt (I 5) 2))))), (5, .ref (D 3 n)), (0, .ref (D 0 0)), (1, .int (nI k))]) hx hb dX5_victim_137 hl (k := 5) rfl (by rw [Int32.sub_eq_add_neg]; rfl) (by decide) rfl (fun ls hl => ?_)
                  refine lv_goto (tgt := 13) hx hb dX5_victim_140 (by decide) ?_
                  exact ih (i + 1) (nI n) (nI (rln (I 5) 3 n)) _ _ _ (by omega) (by rw [← hT]; simp only [f_S_victim_l1, if_neg c2, if_neg c3, if_neg c5, if_neg c7, if_pos c8, if_pos c12]) hok hG hS (lv_sub hl [0, 1, 2, 6, 7] rfl)
                · have hok := hok.2 c12
                  refine lv_goto (tgt := 137) hx hb dX5_victim_128 (by decide) ?_
                  refine lv_iinc (v := ((nI n) - 1)) (lv' := [(4, .int ((nI n) - 1)), (7, .int (nI (rln (I 5) 3 n))), (6, .int ((nI (cnt (I 5) 2)) - ((((nI n) - (nI k)) + (nI (cnt (I 5) 2))) - (((nI n) - (nI k)) + (nI (cnt (I 5) 2))) / (nI (cnt (I 5) 2)) * (nI (cnt (I 5) 2))))), (5, .ref (D 3 n)), (2, .int a), (3, .int b), (0, .ref (D 0 0)), (1, .int (nI k))]) hx hb dX5_victim_137 hl (k := 3) rfl (by rw [Int32.sub_eq_add_neg]; rfl) (by decide) rfl (fun ls hl => ?_)
                  refine lv_goto (tgt := 13) hx hb dX5_victim_140 (by decide) ?_
                  exact ih (i + 1) a b _ _ _ (by omega) (by rw [← hT]; simp only [f_S_victim_l1, if_neg c2, if_neg c3, if_neg c5, if_neg c7, if_pos c8, if_neg c12]) hok hG hS (lv_sub hl [0, 4, 5, 6, 7] rfl)
            · have hok := hok.1 c7
              refine lv_iload hx hb dX5_victim_82 (lv_at hl 0 rfl) ?_
              refine lv_goto (tgt := 120) hx hb dX5_victim_84 (by decide) ?_
              refine lv_istore (lv' := [(7, .int ((nI (cnt (I 5) 2)) - ((((nI n) - (nI k)) + (nI (cnt (I 5) 2))) - (((nI n) - (nI k)) + (nI (cnt (I 5) 2))) / (nI (cnt (I 5) 2)) * (nI (cnt (I 5) 2))))), (6, .int ((nI (cnt (I 5) 2)) - ((((nI n) - (nI k)) + (nI (cnt (I 5) 2))) - (((nI n) - (nI k)) + (nI (cnt (I 5) 2))) / (nI (cnt (I 5) 2)) * (nI (cnt (I 5) 2))))), (5, .ref (D 3 n)), (4, .int (nI n)), (2, .int a), (3, .int b), (0, .ref (D 0 0)), (1, .int (nI k))]) hx hb dX5_victim_120 hl (by decide) rfl (fun ls hl => ?_)
              refine lv_iload hx hb dX5_victim_122 (lv_at hl 0 rfl) ?_
              refine lv_iload_n hx hb dX5_victim_124 rfl (lv_at hl 5 rfl) ?_
              refine lv_icmp_ge (tgt := 131) hx hb dX5_victim_125 (by decide) (fun c13 => ?_) (fun c13 => ?_)
              · have hok := hok.1 c13
                refine lv_iload hx hb dX5_victim_131 (lv_at hl 0 rfl) ?_
                refine lv_istore_n (lv' := [(3, .int ((nI (cnt (I 5) 2)) - ((((nI n) - (nI k)) + (nI (cnt (I 5) 2))) - (((nI n) - (nI k)) + (nI (cnt (I 5) 2))) / (nI (cnt (I 5) 2)) * (nI (cnt (I 5) 2))))), (7, .int ((nI (cnt (I 5) 2)) - ((((nI n) - (nI k)) + (nI (cnt (I 5) 2))) - (((nI n) - (nI k)) + (nI (cnt (I 5) 2))) / (nI (cnt (I 5) 2)) * (nI (cnt (I 5) 2))))), (6, .int ((nI (cnt (I 5) 2)) - ((((nI n) - (nI k)) + (nI (cnt (I 5) 2))) - (((nI n) - (nI k)) + (nI (cnt (I 5) 2))) / (nI (cnt (I 5) 2)) * (nI (cnt (I 5) 2))))), (5, .ref (D 3 n)), (4, .int (nI n)), (2, .int a), (0, .ref (D 0 0)), (1, .int (nI k))]) hx hb dX5_victim_133 rfl hl (by decide) rfl (fun ls hl => ?_)
                refine lv_iload hx hb dX5_victim_134 (lv_at hl 4 rfl) ?_
                refine lv_istore_n (lv' := [(2, .int (nI n)), (3, .int ((nI (cnt (I 5) 2)) - ((((nI n) - (nI k)) + (nI (cnt (I 5) 2))) - (((nI n) - (nI k)) + (nI (cnt (I 5) 2))) / (nI (cnt (I 5) 2)) * (nI (cnt (I 5) 2))))), (7, .int ((nI (cnt (I 5) 2)) - ((((nI n) - (nI k)) + (nI (cnt (I 5) 2))) - (((nI n) - (nI k)) + (nI (cnt (I 5) 2))) / (nI (cnt (I 5) 2)) * (nI (cnt (I 5) 2))))), (6, .int ((nI (cnt (I 5) 2)) - ((((nI n) - (nI k)) + (nI (cnt (I 5) 2))) - (((nI n) - (nI k)) + (nI (cnt (I 5) 2))) / (nI (cnt (I 5) 2)) * (nI (cnt (I 5) 2))))), (5, .ref (D 3 n)), (4, .int (nI n)), (0, .ref (D 0 0)), (1, .int (nI k))]) hx hb dX5_victim_136 rfl hl (by decide) rfl (fun ls hl => ?_)
                refine lv_iinc (v := ((nI n) - 1)) (lv' := [(4, .int ((nI n) - 1)), (2, .int (nI n)), (3, .int ((nI (cnt (I 5) 2)) - ((((nI n) - (nI k)) + (nI (cnt (I 5) 2))) - (((nI n) - (nI k)) + (nI (cnt (I 5) 2))) / (nI (cnt (I 5) 2)) * (nI (cnt (I 5) 2))))), (7, .int ((nI (cnt (I 5) 2)) - ((((nI n) - (nI k)) + (nI (cnt (I 5) 2))) - (((nI n) - (nI k)) + (nI (cnt (I 5) 2))) / (nI (cnt (I 5) 2)) * (nI (cnt (I 5) 2))))), (6, .int ((nI (cnt (I 5) 2)) - ((((nI n) - (nI k)) + (nI (cnt (I 5) 2))) - (((nI n) - (nI k)) + (nI (cnt (I 5) 2))) / (nI (cnt (I 5) 2)) * (nI (cnt (I 5) 2))))), (5, .ref (D 3 n)), (0, .ref (D 0 0)), (1, .int (nI k))]) hx hb dX5_victim_137 hl (k := 5) rfl (by rw [Int32.sub_eq_add_neg]; rfl) (by decide) rfl (fun ls hl => ?_)
                refine lv_goto (tgt := 13) hx hb dX5_victim_140 (by decide) ?_
                exact ih (i + 1) (nI n) ((nI (cnt (I 5) 2)) - ((((nI n) - (nI k)) + (nI (cnt (I 5) 2))) - (((nI n) - (nI k)) + (nI (cnt (I 5) 2))) / (nI (cnt (I 5) 2)) * (nI (cnt (I 5) 2)))) _ _ _ (by omega) (by rw [← hT]; simp only [f_S_victim_l1, if_neg c2, if_neg c3, if_neg c5, if_pos c7, if_pos c13]) hok hG hS (lv_sub hl [0, 1, 2, 6, 7] rfl)
              · have hok := hok.2 c13
                refine lv_goto (tgt := 137) hx hb dX5_victim_128 (by decide) ?_
                refine lv_iinc (v := ((nI n) - 1)) (lv' := [(4, .int ((nI n) - 1)), (7, .int ((nI (cnt (I 5) 2)) - ((((nI n) - (nI k)) + (nI (cnt (I 5) 2))) - (((nI n) - (nI k)) + (nI (cnt (I 5) 2))) / (nI (cnt (I 5) 2)) * (nI (cnt (I 5) 2))))), (6, .int ((nI (cnt (I 5) 2)) - ((((nI n) - (nI k)) + (nI (cnt (I 5) 2))) - (((nI n) - (nI k)) + (nI (cnt (I 5) 2))) / (nI (cnt (I 5) 2)) * (nI (cnt (I 5) 2))))), (5, .ref (D 3 n)), (2, .int a), (3, .int b), (0, .ref (D 0 0)), (1, .int (nI k))]) hx hb dX5_victim_137 hl (k := 3) rfl (by rw [Int32.sub_eq_add_neg]; rfl) (by decide) rfl (fun ls hl => ?_)
                refine lv_goto (tgt := 13) hx hb dX5_victim_140 (by decide) ?_
                exact ih (i + 1) a b _ _ _ (by omega) (by rw [← hT]; simp only [f_S_victim_l1, if_neg c2, if_neg c3, if_neg c5, if_pos c7, if_neg c13]) hok hG hS (lv_sub hl [0, 4, 5, 6, 7] rfl)
          · have hok := hok.1 c5
            refine lv_goto (tgt := 137) hx hb dX5_victim_35 (by decide) ?_
            refine lv_iinc (v := ((nI n) - 1)) (lv' := [(4, .int ((nI n) - 1)), (2, .int a), (3, .int b), (0, .ref (D 0 0)), (1, .int (nI k))]) hx hb dX5_victim_137 hl (k := 0) rfl (by rw [Int32.sub_eq_add_neg]; rfl) (by decide) rfl (fun ls hl => ?_)
            refine lv_goto (tgt := 13) hx hb dX5_victim_140 (by decide) ?_
            exact ih (i + 1) a b _ _ _ (by omega) (by rw [← hT]; simp only [f_S_victim_l1, if_neg c2, if_neg c3, if_pos c5]) hok hG hS (lv_sub hl [0, 1, 2, 3, 4] rfl)
  exact hL (cnt (I 5) 2) 0 (-1) (-1) _ _ _ (Nat.zero_add _) (by simp only [f_S_victim]) hok hG hS (lv_sub hl [0, 2, 1, 3, 4] rfl)
