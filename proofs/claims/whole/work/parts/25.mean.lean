/-! PRINTED by wip/gen (ref.py): X6d -/

def gMd (l : Launch) (E : gE) (J : Int64) (y : MethodName) (b : ByteArray) (n : Nat) (r : Option FieldType) (f L : Nat) (av : List Value) (I : gI) (v : UInt64) (I' : gI) : Prop := Met l y (gws y b n r) (grm f L) (va_Pc av (gP E J I)) (va_Qd (fun x (_ : Unit) => x = v) (fun _ t => GW E J I' t.heap) (gF E)) 0 0 (gF E)
/-- an int over an int that isn't 0 is a number -/
theorem dd_ne (t : Int32) {n : Int32} (h : ¬ n = 0) : vf_n64 (FP.ddiv (FP.i2d t) (FP.i2d n)) := Jvm.Free.Fl.ddiv_out (Jvm.Free.Fl.i2d_fin t).noNaN (Jvm.Free.Fl.i2d_fin n) (Jvm.Free.Fl.i2d_nz h)
section GD
variable {p : Program} {l : Launch} {e : Env} {R : Room} {s : State} {m : MethodId} {args : Array Value} {below : List Frame} {meth : Method} {c : Code} {H : Heap} {locs : List Loc} {cells slots : Nat} {Q : State → Prop}
variable {cc : ByteArray} {pc : Nat} {ls : Array Slot} {rest : List Value} {E : gE} {J : Int64} {I : gI} {own : String}
theorem g_kd {st0 : List Value} {a : Array Value} {v : UInt64} {I' : gI} (hr : va_Run p l e R s m args below meth c H locs cells slots 0 0 (F0 m pc ls st0) rest (va_Qd (fun x (_ : Unit) => x = v) (fun _ t => GW E J I' t.heap) (gF E) a) (gF E)) (hS : va_S (gF E) s.heap H locs)
    (kk : ∀ (H1 : Heap) (locs1 : List Loc), GW E J I' H1 → va_S (gF E) s.heap H1 locs1 → W p l e R s m args below meth c H1 locs1 cells slots Q (F0 m (pc + 3) ls (.double v :: rest))) : W p l e R s m args below meth c H locs cells slots Q (F0 m pc ls st0) :=
  va_calld hr hS (fun q _ h => h) (fun q h => h) (fun r u t H1 locs1 ht hvm hw hB hz hk hS1 => by
    subst hw
    exact kk H1 locs1 (by rw [← ht]; exact hB) hS1)
theorem g_dret {av : Array Value} {v x : UInt64} {I' : gI} (K : kx E p m c cc own av s) (hG : GW E J I' H) (hS : va_S (gF E) s.heap H locs) (hr : meth.sig.returnType = some .double) (hlocks : meth.locks = false) (hv : x = v) (hdg : decode cc pc = .ok (.dreturn, 1)) : W p l e R s m av below meth c H locs 0 0 (MQ below (va_Qd (fun x (_ : Unit) => x = v) (fun _ t => GW E J I' t.heap) (gF E)) av s 0 0 (gF E)) (F0 m pc ls [.double x]) :=
  W.dret K.1 K.2.1 hr (fun t ht hW => ⟨⟨x, (), rfl, hv, by show GW E J I' t.heap; rw [ht]; exact hG⟩, hS.F ht⟩) hS.2.2 hdg hlocks
end GD

def ok_X6_mean (I : gI)  : Prop :=
  ∀ I1, I1 = gU I 2 11 0 0 0 →
  (((I1 2 11 0 1) = 0) →
    True) ∧
  (¬ ((I1 2 11 0 1) = 0) →
    ok_X6_sumOf I1 3 30 ∧
    True)
def f_X6_mean_v (I : gI)  : UInt64 :=
  let I1 := gU I 2 11 0 0 0
  if (I1 2 11 0 1) = 0 then
    FP.dconst0
  else
    (FP.ddiv (FP.i2d (f_X6_sumOf I1 3 30)) (FP.i2d (I1 2 11 0 1)))
def f_X6_mean_s (I : gI)  : gI :=
  let I1 := gU I 2 11 0 0 0
  if (I1 2 11 0 1) = 0 then
    I1
  else
    I1
set_option maxHeartbeats 4000000 in
set_option maxRecDepth 100000 in
theorem m_X6_mean (l : Launch) (E : gE) (J : Int64) (I : gI)  (hok : ok_X6_mean I) : gMd l E J yX6_mean cX6_mean 1 (some .double) 1 23 [.ref (gA E 2 11 0)] I (f_X6_mean_v I) (f_X6_mean_s I) := by
  refine g_entry (lv := [(0, .ref (gA E 2 11 0))]) (by decide) (Nat.le_of_ble_eq_true rfl) rfl ?_
  intro p e s m below meth c0 ls K hG hS hml hr hlocks hl
  have K : kx E p m c0 cX6_mean "HayThievesModel" _ s := K
  have hx := K.1
  have hb := K.2.1
  have hts := K.2.2.1
  have hown := K.2.2.2.1
  have hSt := K.2.2.2.2
  unfold ok_X6_mean at hok
  refine lv_aload_n hx hb dX6_mean_0 rfl (lv_at hl 0 rfl) ?_
  refine lv_iconst (v := 0) hx hb dX6_mean_1 (by decide) ?_
  refine pf_X6_36 K hG hS rfl dX6_mean_2 (fun I1 hI1 H locs hG hS => ?_)
  have hok := hok I1 hI1
  refine lv_aload_n hx hb dX6_mean_5 rfl (lv_at hl 0 rfl) ?_
  refine gf_X6_39 K hG rfl dX6_mean_6 ?_
  refine lv_if_ne (tgt := 16) hx hb dX6_mean_9 (by decide) (fun c1 => ?_) (fun c1 => ?_)
  · have hok := hok.2 c1
    refine lv_aload_n hx hb dX6_mean_16 rfl (lv_at hl 0 rfl) ?_
    refine lv_aload_n hx hb dX6_mean_17 rfl (lv_at hl 0 rfl) ?_
    refine gf_X6_29 K hG rfl dX6_mean_18 ?_
    refine gf_X6_159 K hG (gvs (Or.inl rfl) 20 rfl) dX6_mean_21 ?_
    obtain ⟨ho2, hok⟩ := hok
    refine g_ki (g_runV (As := [.ref (gA E 3 30 0)]) (rest := []) K hml ca_X6_sumOf q861 (m_X6_sumOf l E J I1 3 30 (gvs (Or.inl rfl) 30 rfl) rfl (fun _ => rfl) ho2) hG hS rfl rfl rfl rfl rfl hl.1 (Nat.le_of_ble_eq_true rfl) ⟨by decide, by decide⟩ dX6_mean_24 ⟨Nat.zero_le _, Nat.zero_le _⟩) hS (fun H locs hG hS => ?_)
    refine lv_i2d hx hb dX6_mean_27 ?_
    refine lv_aload_n hx hb dX6_mean_28 rfl (lv_at hl 0 rfl) ?_
    refine gf_X6_39 K hG rfl dX6_mean_29 ?_
    refine lv_i2d hx hb dX6_mean_32 ?_
    refine lv_ddiv hx hb dX6_mean_33 (dd_ne _ c1) ?_
    have eS : I1 = (f_X6_mean_s I) := (by simp only [f_X6_mean_s, ← hI1, if_neg c1])
    rw [eS] at hG
    exact g_dret K hG hS hr hlocks (by simp only [f_X6_mean_v, ← hI1, if_neg c1]) dX6_mean_34
  · have hok := hok.1 c1
    refine lv_dconst0 hx hb dX6_mean_12 ?_
    refine lv_goto (tgt := 34) hx hb dX6_mean_13 (by decide) ?_
    have eS : I1 = (f_X6_mean_s I) := (by simp only [f_X6_mean_s, ← hI1, if_pos c1])
    rw [eS] at hG
    exact g_dret K hG hS hr hlocks (by simp only [f_X6_mean_v, ← hI1, if_pos c1]) dX6_mean_34
