/-! PRINTED by wip/gen (ref.py): X6d -/

def gMd (l : Launch) (E : gE) (J : Int64) (y : MethodName) (b : ByteArray) (n : Nat) (r : Option FieldType) (f L : Nat) (av : List Value) (I : gI) (v : UInt64) (I' : gI) : Prop := Met l y (gws y b n r) (grm f L) (va_Pc av (gP E J I)) (va_Qd (fun x (_ : Unit) => x = v) (fun _ t => GW E J I' t.heap) (gF E)) 0 0 (gF E)
/-- an int over an int that isn't 0 is a number -/
theorem dd_ne (t : Int32) {n : Int32} (h : ¬ n = 0) : vf_n64 (FP.ddiv (FP.i2d t) (FP.i2d n)) := Jvm.Free.Fl.ddiv_out (Jvm.Free.Fl.i2d_fin t).noNaN (Jvm.Free.Fl.i2d_fin n) (Jvm.Free.Fl.i2d_nz h)
section GD
variable {p : Program} {l : Launch} {e : Env} {R : Room} {s : State} {m : MethodId} {args : Array Value} {below : List Frame} {meth : Method} {c : Code} {H : Heap} {locs : List Loc} {cells slots : Nat} {Q : State → Prop}
variable {cc : ByteArray} {pc : Nat} {ls : Array Slot} {rest : List Value} {E : gE} {J : Int64} {I : gI} {own : String}
theorem g_kd {st0 : List Value} {a : Array Value} {v : UInt64} {I' : gI} (hr : va_Run p l e R s m args below meth c H locs cells slots 0 0 (F0 m pc ls st0) rest (va_Qd (fun x (_ : Unit) => x = v) (fun _ t => GW E J I' t.heap) (gF E) a) (gF E)) (hS : va_S (gF E) s.heap H locs)
    (kk : ∀ (H1 : Heap) (locs1 : List Loc), GW E J I' H1 → va_S (gF E) s.heap H1 locs1 → W p l e R s m args below meth c H1 locs1 cells slots Q (F0 m (pc + 3) ls (.double v :: rest))) : W p l e R s m args below meth c H locs cells slots Q (F0 m pc ls st0) :=
  va_calld hr hS (fun q _ h => h) (fun q h => h) (fun r u t H1 locs1 ht hvm hw hB hz hk hS1 => by
    subst hw
    exact kk H1 locs1 (by rw [← ht]; exact hB) hS1)
theorem g_dret {av : Array Value} {v x : UInt64} {I' : gI} (K : kx E p m c cc own av s) (hG : GW E J I' H) (hS : va_S (gF E) s.heap H locs) (hr : meth.sig.returnType = some .double) (hlocks : meth.locks = false) (hv : x = v) (hdg : decode cc pc = .ok (.dreturn, 1)) : W p l e R s m av below meth c H locs 0 0 (MQ below (va_Qd (fun x (_ : Unit) => x = v) (fun _ t => GW E J I' t.heap) (gF E)) av s 0 0 (gF E)) (F0 m pc ls [.double x]) :=
  W.dret K.1 K.2.1 hr (fun t ht hW => ⟨⟨x, (), rfl, hv, by show GW E J I' t.heap; rw [ht]; exact hG⟩, hS.F ht⟩) hS.2.2 hdg hlocks
end GD
/-! PRINTED by wip/gen (cls.py): X4c -/
def f_X4_mean (I : gI)  : UInt64 :=
  if (I 0 0 0 4) = 0 then
    FP.dconst0
  else
    (FP.ddiv (FP.i2d (f_X3_tell I 0 10)) (FP.i2d (I 0 0 0 4)))
set_option maxHeartbeats 4000000 in
set_option maxRecDepth 100000 in
theorem m_X4_mean (l : Launch) (E : gE) (J : Int64) (I : gI) (hw0 : wf (I 0)) : gMd l E J yX4_mean cX4_mean 1 (some .double) 4 86 [.ref (gA E 2 10 0)] I (f_X4_mean I) I := by
  refine g_entry (lv := [(0, .ref (gA E 2 10 0))]) (by decide) (Nat.le_of_ble_eq_true rfl) rfl ?_
  intro p e s m below meth c0 ls K hG hS hml hr hlocks hl
  have K : kx E p m c0 cX4_mean "HayThieves" _ s := K
  have hx := K.1
  have hb := K.2.1
  have hts := K.2.2.1
  have hown := K.2.2.2.1
  have hSt := K.2.2.2.2
  have hN := hw0.N
  have hM := hw0.M
  refine lv_aload_n hx hb dX4_mean_0 rfl (lv_at hl 0 rfl) ?_
  refine gf_X4_12 K hG rfl dX4_mean_1 ?_
  refine gf_X4_26 K hG (gv0 (by decide)) dX4_mean_4 ?_
  refine lv_if_ne (tgt := 12) hx hb dX4_mean_7 (by decide) (fun c1 => ?_) (fun c1 => ?_)
  · refine lv_aload_n hx hb dX4_mean_12 rfl (lv_at hl 0 rfl) ?_
    refine gf_X4_12 K hG rfl dX4_mean_13 ?_
    refine lv_bipush (v := 10) hx hb dX4_mean_16 (by decide) ?_
    refine g_ki (g_runV (As := [.int 10]) (rest := []) K hml ca_X3_tell q294 (m_X3_tell l E J I 0 10 (by decide) hw0) hG hS (gv0 (by decide)) rfl rfl rfl rfl hl.1 (Nat.le_of_ble_eq_true rfl) ⟨by decide, by decide⟩ dX4_mean_18 ⟨Nat.zero_le _, Nat.zero_le _⟩) hS (fun H locs hG hS => ?_)
    refine lv_i2d hx hb dX4_mean_21 ?_
    refine lv_aload_n hx hb dX4_mean_22 rfl (lv_at hl 0 rfl) ?_
    refine gf_X4_12 K hG rfl dX4_mean_23 ?_
    refine gf_X4_26 K hG (gv0 (by decide)) dX4_mean_26 ?_
    refine lv_i2d hx hb dX4_mean_29 ?_
    refine lv_ddiv hx hb dX4_mean_30 (dd_ne _ c1) ?_
    exact g_dret K hG hS hr hlocks (by simp only [f_X4_mean, if_neg c1]) dX4_mean_31
  · refine lv_dconst0 hx hb dX4_mean_10 ?_
    exact g_dret K hG hS hr hlocks (by simp only [f_X4_mean, if_pos c1]) dX4_mean_11
