section
-- ===== PART A: goes FIRST, ahead of the names: the tables' words, and 'selects' of the private methods out of them =====
/-- a private method of a class that the tables say can be made, by its rows of tables_1 -/
def lw_okq (q : MethodName × Nat) : Prop := (q.1.cls ≠ "java/lang/invoke/MethodHandle" ∧ q.1.cls ≠ "java/lang/invoke/VarHandle") ∧ Cond.instantiable q.1.cls q.2 ∈ tables_1 ∧ Cond.privateMethod q.1 ∈ tables_1 ∧ Cond.instanceMethod q.1 ∈ tables_1
theorem lw_p0 : lw_okq (⟨"HayThieves", "mixedWithLad", "(JLHayThieves$Lad;)J"⟩, 2) := ⟨⟨by decide +kernel, by decide +kernel⟩, List.mem_of_getElem? (i := 17) (by decide +kernel), List.mem_of_getElem? (i := 241) (by decide +kernel), List.mem_of_getElem? (i := 242) (by decide +kernel)⟩
theorem lw_p1 : lw_okq (⟨"java/lang/Throwable", "fillInStackTrace", "(I)Ljava/lang/Throwable;"⟩, 6) := ⟨⟨by decide +kernel, by decide +kernel⟩, List.mem_of_getElem? (i := 302) (by decide +kernel), List.mem_of_getElem? (i := 300) (by decide +kernel), List.mem_of_getElem? (i := 301) (by decide +kernel)⟩
theorem lw_p2 : lw_okq (⟨"HayThieves", "needLad", "(I)V"⟩, 2) := ⟨⟨by decide +kernel, by decide +kernel⟩, List.mem_of_getElem? (i := 17) (by decide +kernel), List.mem_of_getElem? (i := 360) (by decide +kernel), List.mem_of_getElem? (i := 361) (by decide +kernel)⟩
theorem lw_p3 : lw_okq (⟨"HayThieves", "needLoad", "(I)V"⟩, 2) := ⟨⟨by decide +kernel, by decide +kernel⟩, List.mem_of_getElem? (i := 17) (by decide +kernel), List.mem_of_getElem? (i := 450) (by decide +kernel), List.mem_of_getElem? (i := 451) (by decide +kernel)⟩
theorem lw_p4 : lw_okq (⟨"HayThievesModel", "no", "(I)I"⟩, 10) := ⟨⟨by decide +kernel, by decide +kernel⟩, List.mem_of_getElem? (i := 631) (by decide +kernel), List.mem_of_getElem? (i := 786) (by decide +kernel), List.mem_of_getElem? (i := 787) (by decide +kernel)⟩
theorem lw_p5 : lw_okq (⟨"HayThievesModel", "isLad", "(I)Z"⟩, 10) := ⟨⟨by decide +kernel, by decide +kernel⟩, List.mem_of_getElem? (i := 631) (by decide +kernel), List.mem_of_getElem? (i := 794) (by decide +kernel), List.mem_of_getElem? (i := 795) (by decide +kernel)⟩
theorem lw_p6 : lw_okq (⟨"HayThievesModel", "sleepers", "(LHayThievesModel$State;)I"⟩, 10) := ⟨⟨by decide +kernel, by decide +kernel⟩, List.mem_of_getElem? (i := 631) (by decide +kernel), List.mem_of_getElem? (i := 818) (by decide +kernel), List.mem_of_getElem? (i := 819) (by decide +kernel)⟩
theorem lw_p7 : lw_okq (⟨"HayThievesModel", "ladTold", "(II)I"⟩, 10) := ⟨⟨by decide +kernel, by decide +kernel⟩, List.mem_of_getElem? (i := 631) (by decide +kernel), List.mem_of_getElem? (i := 826) (by decide +kernel), List.mem_of_getElem? (i := 827) (by decide +kernel)⟩
theorem lw_p8 : lw_okq (⟨"HayThievesModel", "loadOf", "(I)I"⟩, 10) := ⟨⟨by decide +kernel, by decide +kernel⟩, List.mem_of_getElem? (i := 631) (by decide +kernel), List.mem_of_getElem? (i := 830) (by decide +kernel), List.mem_of_getElem? (i := 831) (by decide +kernel)⟩
theorem lw_p9 : lw_okq (⟨"HayThievesModel", "isLoad", "(I)Z"⟩, 10) := ⟨⟨by decide +kernel, by decide +kernel⟩, List.mem_of_getElem? (i := 631) (by decide +kernel), List.mem_of_getElem? (i := 842) (by decide +kernel), List.mem_of_getElem? (i := 843) (by decide +kernel)⟩
theorem lw_p10 : lw_okq (⟨"HayThievesModel", "loadTold", "(II)I"⟩, 10) := ⟨⟨by decide +kernel, by decide +kernel⟩, List.mem_of_getElem? (i := 631) (by decide +kernel), List.mem_of_getElem? (i := 846) (by decide +kernel), List.mem_of_getElem? (i := 847) (by decide +kernel)⟩
theorem lw_p11 : lw_okq (⟨"HayThievesModel", "counted", "(LHayThievesModel$State;I)I"⟩, 10) := ⟨⟨by decide +kernel, by decide +kernel⟩, List.mem_of_getElem? (i := 631) (by decide +kernel), List.mem_of_getElem? (i := 854) (by decide +kernel), List.mem_of_getElem? (i := 855) (by decide +kernel)⟩
theorem lw_p12 : lw_okq (⟨"HayThievesModel", "loadsThat", "(LHayThievesModel$State;I)I"⟩, 10) := ⟨⟨by decide +kernel, by decide +kernel⟩, List.mem_of_getElem? (i := 631) (by decide +kernel), List.mem_of_getElem? (i := 858) (by decide +kernel), List.mem_of_getElem? (i := 859) (by decide +kernel)⟩
theorem lw_p13 : lw_okq (⟨"HayThievesModel", "sumOf", "([I)I"⟩, 10) := ⟨⟨by decide +kernel, by decide +kernel⟩, List.mem_of_getElem? (i := 631) (by decide +kernel), List.mem_of_getElem? (i := 862) (by decide +kernel), List.mem_of_getElem? (i := 863) (by decide +kernel)⟩
theorem lw_p14 : lw_okq (⟨"HayThievesModel", "victimOf", "(LHayThievesModel$State;I)I"⟩, 10) := ⟨⟨by decide +kernel, by decide +kernel⟩, List.mem_of_getElem? (i := 631) (by decide +kernel), List.mem_of_getElem? (i := 870) (by decide +kernel), List.mem_of_getElem? (i := 871) (by decide +kernel)⟩
theorem lw_p15 : lw_okq (⟨"HayThievesModel", "rank", "(LHayThievesModel$State;II)I"⟩, 10) := ⟨⟨by decide +kernel, by decide +kernel⟩, List.mem_of_getElem? (i := 631) (by decide +kernel), List.mem_of_getElem? (i := 874) (by decide +kernel), List.mem_of_getElem? (i := 875) (by decide +kernel)⟩
def lw_privs_1 : List (MethodName × Nat) := [(⟨"HayThieves", "mixedWithLad", "(JLHayThieves$Lad;)J"⟩, 2), (⟨"java/lang/Throwable", "fillInStackTrace", "(I)Ljava/lang/Throwable;"⟩, 6), (⟨"HayThieves", "needLad", "(I)V"⟩, 2), (⟨"HayThieves", "needLoad", "(I)V"⟩, 2), (⟨"HayThievesModel", "no", "(I)I"⟩, 10), (⟨"HayThievesModel", "isLad", "(I)Z"⟩, 10), (⟨"HayThievesModel", "sleepers", "(LHayThievesModel$State;)I"⟩, 10), (⟨"HayThievesModel", "ladTold", "(II)I"⟩, 10), (⟨"HayThievesModel", "loadOf", "(I)I"⟩, 10), (⟨"HayThievesModel", "isLoad", "(I)Z"⟩, 10), (⟨"HayThievesModel", "loadTold", "(II)I"⟩, 10), (⟨"HayThievesModel", "counted", "(LHayThievesModel$State;I)I"⟩, 10), (⟨"HayThievesModel", "loadsThat", "(LHayThievesModel$State;I)I"⟩, 10), (⟨"HayThievesModel", "sumOf", "([I)I"⟩, 10), (⟨"HayThievesModel", "victimOf", "(LHayThievesModel$State;I)I"⟩, 10), (⟨"HayThievesModel", "rank", "(LHayThievesModel$State;II)I"⟩, 10)]
theorem lw_r1 : ∀ q ∈ lw_privs_1, lw_okq q := List.forall_mem_cons.mpr ⟨lw_p0, List.forall_mem_cons.mpr ⟨lw_p1, List.forall_mem_cons.mpr ⟨lw_p2, List.forall_mem_cons.mpr ⟨lw_p3, List.forall_mem_cons.mpr ⟨lw_p4, List.forall_mem_cons.mpr ⟨lw_p5, List.forall_mem_cons.mpr ⟨lw_p6, List.forall_mem_cons.mpr ⟨lw_p7, List.forall_mem_cons.mpr ⟨lw_p8, List.forall_mem_cons.mpr ⟨lw_p9, List.forall_mem_cons.mpr ⟨lw_p10, List.forall_mem_cons.mpr ⟨lw_p11, List.forall_mem_cons.mpr ⟨lw_p12, List.forall_mem_cons.mpr ⟨lw_p13, List.forall_mem_cons.mpr ⟨lw_p14, List.forall_mem_cons.mpr ⟨lw_p15, fun _ h => absurd h List.not_mem_nil⟩⟩⟩⟩⟩⟩⟩⟩⟩⟩⟩⟩⟩⟩⟩⟩
theorem lw_p16 : lw_okq (⟨"HayThievesModel", "passAll", "(LHayThievesModel$State;II)LHayThievesModel$State;"⟩, 10) := ⟨⟨by decide +kernel, by decide +kernel⟩, List.mem_of_getElem? (i := 631) (by decide +kernel), List.mem_of_getElem? (i := 890) (by decide +kernel), List.mem_of_getElem? (i := 891) (by decide +kernel)⟩
theorem lw_p17 : lw_okq (⟨"HayThievesModel", "pass", "(LHayThievesModel$State;I)V"⟩, 10) := ⟨⟨by decide +kernel, by decide +kernel⟩, List.mem_of_getElem? (i := 631) (by decide +kernel), List.mem_of_getElem? (i := 894) (by decide +kernel), List.mem_of_getElem? (i := 895) (by decide +kernel)⟩
theorem lw_p18 : lw_okq (⟨"HayThievesModel", "turn", "(LHayThievesModel$State;II)V"⟩, 10) := ⟨⟨by decide +kernel, by decide +kernel⟩, List.mem_of_getElem? (i := 631) (by decide +kernel), List.mem_of_getElem? (i := 898) (by decide +kernel), List.mem_of_getElem? (i := 899) (by decide +kernel)⟩
theorem lw_p19 : lw_okq (⟨"HayThievesModel", "inYard", "(LHayThievesModel$State;)I"⟩, 10) := ⟨⟨by decide +kernel, by decide +kernel⟩, List.mem_of_getElem? (i := 631) (by decide +kernel), List.mem_of_getElem? (i := 932) (by decide +kernel), List.mem_of_getElem? (i := 933) (by decide +kernel)⟩
def lw_privs_2 : List (MethodName × Nat) := [(⟨"HayThievesModel", "passAll", "(LHayThievesModel$State;II)LHayThievesModel$State;"⟩, 10), (⟨"HayThievesModel", "pass", "(LHayThievesModel$State;I)V"⟩, 10), (⟨"HayThievesModel", "turn", "(LHayThievesModel$State;II)V"⟩, 10), (⟨"HayThievesModel", "inYard", "(LHayThievesModel$State;)I"⟩, 10)]
theorem lw_r2 : ∀ q ∈ lw_privs_2, lw_okq q := List.forall_mem_cons.mpr ⟨lw_p16, List.forall_mem_cons.mpr ⟨lw_p17, List.forall_mem_cons.mpr ⟨lw_p18, List.forall_mem_cons.mpr ⟨lw_p19, fun _ h => absurd h List.not_mem_nil⟩⟩⟩⟩
def lw_privs : List (MethodName × Nat) := lw_privs_1 ++ (lw_privs_2)
def lw_tbl : List Cond := k2_sels lw_privs ++ tables_1
theorem lw_privs_ok : ∀ q ∈ lw_privs, lw_okq q := by
  show ∀ q ∈ lw_privs_1 ++ (lw_privs_2), lw_okq q
  exact List.forall_mem_append.mpr ⟨lw_r1, lw_r2⟩
/-- the streams that the claim lets the run draw from -/
abbrev lw_cs : List Choice := [Jvm.Choice.named "NaN.bits"]
theorem lw_bits : nanBits ∈ lw_cs := by first | decide | exact List.mem_cons_self | simp [lw_cs, nanBits]
-- ===== end of PART A; then your names; then what follows =====
/-! ===== BEGIN words of one list among another's, by their places ===== -/
theorem goodIn_r {big : List Cond} (ws : List Cond) (ps : List Nat) (hp : ws = ps.filterMap (fun i => big[i]?)) (h : ws.all goodWord = true) : GoodIn big ws := by
  intro w hw
  have h1 := List.all_eq_true.mp h w hw
  rw [hp] at hw
  obtain ⟨i, -, hi⟩ := List.mem_filterMap.mp hw
  have hm : w ∈ big := by first | exact List.mem_of_getElem? hi | exact List.getElem?_mem hi
  exact ⟨hm, good_of_word h1⟩
theorem goodIn_app {big a b : List Cond} (ha : GoodIn big a) (hb : GoodIn big b) : GoodIn big (a ++ b) := fun w h => (List.mem_append.mp h).elim (ha w) (hb w)
theorem goodIn_ca {big a b : List Cond} {c : Cond} (ha : GoodIn big (c :: a)) (hb : GoodIn big b) : GoodIn big (c :: (a ++ b)) := fun w h => (List.mem_cons.mp h).elim (fun e => ha w (List.mem_cons.mpr (Or.inl e))) (fun h => (List.mem_append.mp h).elim (fun h => ha w (List.mem_cons.mpr (Or.inr h))) (hb w))
theorem goodIn_sub {big ws : List Cond} (hm : ∀ w ∈ ws, w ∈ big) (h : ws.all goodWord = true) : GoodIn big ws := fun w hw => ⟨hm w hw, good_of_word (List.all_eq_true.mp h w hw)⟩
/-! ===== END ===== -/

/-! ===== BEGIN exceptions that leave a method, and their catching by the caller (launches without stack traces) ===== -/
section VXA
/-! The laws vx_back, vx_callV, vx_callS, vx_callSW, vx_throw0, vx_throwS follow proofs of the library, with one case more: JvmDerived/Free/Laws.lean (Back.of_free), Shelf42/LK1.lean (callV, callS), Shelf/KitTraced.lean (throwNew0V, throwNewS). -/
/-- where a method has thrown q: the class by its name, the cell, what was written, the world -/
def vx_T (XC : String → State → State → Prop) (st : State) (q : Addr) (t : State) (mc ms : Nat) (free : Addr → Prop) : Prop :=
  ∃ (E : String) (ce : Cell) (L : List Loc), XC E st t ∧ t.heap[q]? = some ce ∧ ce.vm = .none ∧ st.vm.findClass E = some ce.cls ∧ st.WarmedH t.vm ∧ st.sameButNew ({ t with vm := st.vm } : State) L mc ms ∧ ∀ z ∈ L, free z.base
def vx_Q (Qc : Array Value → State → Outcome → State → Prop) (XC : String → State → State → Prop) (mc ms : Nat) (free : Addr → Prop) : Array Value → State → Outcome → State → Prop := fun a st o t =>
  (Qc a st o t ∧ ∃ L, FrameEnd st o t L mc ms ∧ ∀ q ∈ L, free q.base) ∨ ∃ q, o = .threw q ∧ vx_T XC st q t mc ms free
/-- a callee that returns or throws -/
def vx_Met (l : Launch) (y : MethodName) (ws : List Cond) (rm : Room) (Pc : Array Value → State → Prop) (Qc : Array Value → State → Outcome → State → Prop) (XC : String → State → State → Prop) (mc ms : Nat) (free : Addr → Prop) : Prop :=
  MetFree l y (headSpec ws rm) Pc (fun _ _ _ _ _ => True) (vx_Q Qc XC mc ms free)
def vx_Post (XC : String → State → State → Prop) (mc ms : Nat) (free : Addr → Prop) : Pt → Array Value → Addr → Pt → Prop := fun A a q B =>
  ∃ (g : JFrame) (mk : MethodId) (t : State) (L : List Loc) (E : String) (ce : Cell), B.U.heap = t.heap ∧ B.U.vm = t.vm ∧ XC E (A.U.calling g mk a) t ∧ t.heap[q]? = some ce ∧ ce.vm = .none ∧ A.U.vm.findClass E = some ce.cls ∧ B.locs = A.locs ++ L ∧ (∀ z ∈ L, free z.base) ∧ B.cells = A.cells + mc ∧ B.slots = A.slots + ms
def vx_Back (l : Launch) (R : Room) (p : Program) (e : Env) (below : List Frame) (s : State) (sargs : Array Value) (y : MethodName) (len W9 : Nat)
    (Pre : Pt → Array Value → Prop) (Post : Pt → Array Value → Option Value → Pt → Prop) (PostX : Pt → Array Value → Addr → Pt → Prop) : Prop :=
  ∀ (m : MethodId) (meth : Method) (c : Code) (A : Pt) (g : JFrame) (ig : Instr) (mk : MethodId) (a : Array Value),
    Stand p l e R s m sargs below meth c A.U A.locs A.cells A.slots → g.method = m → g.locals.size = c.maxLocals → decode c.code g.pc = .ok (ig, len) →
    2 * g.monitorRoom + (g.stack.map fun v => v.category).sum ≤ W9 → A.U.methodNamed? y = some mk → Pre A a →
    (∃ (v : Option Value) (B : Pt), Stand p l e R s m sargs below meth c B.U B.locs B.cells B.slots ∧ Post A a v B ∧
      Steps p.tables e below (doInvoke e (A.U.setTop g) [] mk a).1 (B.U.setTop { g with pc := g.pc + len, stack := v.toList ++ g.stack })) ∨
    (∃ (q : Addr) (B : Pt), Stand p l e R s m sargs below meth c B.U B.locs B.cells B.slots ∧ PostX A a q B ∧
      Steps p.tables e below (doInvoke e (A.U.setTop g) [] mk a).1 ((B.U.setTop g).pushFrame (.throwing q)))
section Payer
variable {l : Launch} {R : Room} {p : Program} {e : Env} {below : List Frame} {s : State} {sargs : Array Value} {y : MethodName} {len W9 : Nat}
theorem vx_back {ws : List Cond} {rm : Room} {Pc : Array Value → State → Prop} {Qc : Array Value → State → Outcome → State → Prop} {XC : String → State → State → Prop} {mc ms : Nat} {free : Addr → Prop} {bytes : ByteArray} {maxL : Nat} {ret : Option FieldType}
    (hM : vx_Met l y ws rm Pc Qc XC mc ms free) (hblind : FrameBlind Pc) (hrc : rm.cells = mc) (hrs : rm.slots = ms)
    (hframes : rm.frames + 1 ≤ R.frames) (hlocals : W9 + (maxL + 11) + rm.locals ≤ R.locals)
    (hws : ∀ w ∈ ws, ∀ a' U, s.WarmedH U.vm → w.before a' U = true) (hcode : Cond.code y bytes maxL ret ∈ ws) (hinit : ∀ a' U, s.WarmedH U.vm → (Cond.initialized y.cls).before a' U = true) :
    vx_Back l R p e below s sargs y len W9 (PreOf R mc ms Pc) (PostOf Qc mc ms free) (vx_Post XC mc ms free) := by
  intro m meth c A g ig mk a X hg hsize hdg hW hn hp
  have h1 : (headSpec ws rm).pre.before a A.U = true := atoms_intro fun w hw => hws w hw _ _ X.warmed
  have h2 : (Cond.code y bytes maxL ret).before a A.U = true := hws _ hcode _ _ X.warmed
  have h3 : (Cond.initialized y.cls).before a A.U = true := hinit _ _ X.warmed
  have h4 : A.cells + (headSpec ws rm).room.cells ≤ R.cells := by rw [show (headSpec ws rm).room.cells = mc from hrc]; exact hp.1
  have h5 : A.slots + (headSpec ws rm).room.slots ≤ R.slots := by rw [show (headSpec ws rm).room.slots = ms from hrs]; exact hp.2.1
  have hPc : Pc a (A.U.calling g mk a) := hblind _ _ _ _ hp.2.2
  obtain ⟨U, Ls, c0, s0⟩ := A
  dsimp only [Pt.U, Pt.locs, Pt.cells, Pt.slots] at h1 h2 h3 h4 h5 X hn hPc ⊢
  obtain ⟨methY, cY, hmY, hcY, -, hlY, -, -, -, -⟩ := Cond.code_spec hn h2
  obtain ⟨kY, hkY, -⟩ := className_of_methodNamed hn
  have hinitY : kY.init = .initialized := Cond.initialized_spec (findClass_of_methodNamed hn) hkY h3
  have h : At U g.method c below := by rw [hg]; exact X.here
  have hlocals9 : W9 + (maxL + 11) + (headSpec ws rm).room.locals ≤ R.locals := hlocals
  have happ : (headSpec ws rm).appliesLoose y e.platform (U.calling g mk a) = true :=
    Spec.appliesLoose_calling (g := g) h hdg hn hkY hinitY
      (X.room_calling (g := g) (R' := (headSpec ws rm).room) hsize hmY hcY hframes (by rw [hlY]; omega) h4 h5) h1
  obtain ⟨mid, hmid⟩ := h.above
  have hfr : (U.setTop g).frames = (.java g :: mid) ++ below := by rw [State.frames_setTop' g h.top, hmid]; rfl
  obtain ⟨o, s₂, hsteps, -, hend, hq⟩ := Steps.callFree hM p X.admits X.cas X.clock (acts := []) hfr happ hPc trivial
  have hq' : vx_Q Qc XC mc ms free a (U.calling g mk a) o s₂ := hq
  rw [State.frames_setTop' g h.top] at hend
  obtain ⟨g₀, hg0⟩ := Option.isSome_iff_exists.mp h.top
  obtain ⟨r, hr⟩ := State.topJava?_eq_some.mp hg0
  have hr' : (({ U with heap := s₂.heap, slotsUsed := s₂.slotsUsed } : State).setVm s₂.vm).frames = .java g₀ :: r := hr
  rcases hq' with ⟨hqc, L, hfe, hL⟩ | ⟨q, rfl, E, ce, L, hx, hce, hcv, hcl, hW₂, hsm, hL⟩
  · obtain ⟨⟨v, rfl⟩, hW₂, e2, q2, q3, q4, q5, q6⟩ := id hfe
    have e3 : s₂ = ({ (U.calling g mk a).setFrames s₂.frames with heap := s₂.heap, slotsUsed := s₂.slotsUsed } : State).setVm s₂.vm := by
      have : s₂ = ({ s₂ with vm := (U.calling g mk a).vm } : State).setVm s₂.vm := rfl
      rw [e2] at this
      exact this
    obtain ⟨c₂, i₂, len₂, hc₂, hd₂, hf₂⟩ := hend
    have hW' : U.WarmedH s₂.vm := hW₂
    have hcc : c₂ = c := by
      have h1 : s₂.code? g.method = U.code? g.method := by
        rw [State.code?_eq, State.code?_eq, hW'.alike.method?]
      exact Option.some.inj (hc₂.symm.trans (h1.trans h.code))
    subst hcc
    have hlen : len₂ = len := by rw [hdg] at hd₂; cases hd₂; rfl
    subst hlen
    have hs₂ : s₂ = (({ U with heap := s₂.heap, slotsUsed := s₂.slotsUsed } : State).setVm s₂.vm).setTop { g with pc := g.pc + len₂, stack := v.toList ++ g.stack } := by
      refine e3.trans ?_
      rw [hf₂, State.calling_eq h.top, State.setFrames_setFrames, State.setTop_of_frames _ hr', hr]
      rfl
    have hsame : U.sameButNew ({ U with heap := s₂.heap, slotsUsed := s₂.slotsUsed } : State) L mc ms := by
      refine ⟨?_, q2, q3, q4, q5, q6⟩
      obtain ⟨t, ht, -⟩ := State.frames_cons hr
      show ({ U with heap := s₂.heap, slotsUsed := s₂.slotsUsed } : State) = { U.setFrames U.frames with heap := s₂.heap, slotsUsed := s₂.slotsUsed }
      rw [State.setFrames_self ht]
    subst hg
    refine Or.inl ⟨v, ⟨(({ U with heap := s₂.heap, slotsUsed := s₂.slotsUsed } : State).setVm s₂.vm), Ls ++ L, c0 + mc, s0 + ms⟩,
      ⟨X.admits, X.cas, X.clock, X.frames, X.room, X.hears, X.method, X.code, (X.here.setHeapUsed s₂.heap s₂.slotsUsed).setVm hW'.alike, X.tail, State.WarmedH.trans X.warmed hW', X.limits, X.bytes, X.same.trans (hsame.setVm s.vm)⟩,
      ⟨g, mk, s₂, L, rfl, rfl, hqc, rfl, hL, rfl, rfl⟩, ?_⟩
    show Steps p.tables e below _ ((({ U with heap := s₂.heap, slotsUsed := s₂.slotsUsed } : State).setVm s₂.vm).setTop { g with pc := g.pc + len₂, stack := v.toList ++ g.stack })
    rw [← hs₂]
    exact hsteps
  · obtain ⟨e2, q2, q3, q4, q5, q6⟩ := id hsm
    have e3 : s₂ = ({ (U.calling g mk a).setFrames s₂.frames with heap := s₂.heap, slotsUsed := s₂.slotsUsed } : State).setVm s₂.vm := by
      have : s₂ = ({ s₂ with vm := (U.calling g mk a).vm } : State).setVm s₂.vm := rfl
      rw [e2] at this
      exact this
    have hf₂ : s₂.frames = .throwing q :: .java g :: U.frames.tail := hend
    have hW' : U.WarmedH s₂.vm := hW₂
    have hs₂ : s₂ = ((({ U with heap := s₂.heap, slotsUsed := s₂.slotsUsed } : State).setVm s₂.vm).setTop g).pushFrame (.throwing q) := by
      refine e3.trans ?_
      rw [hf₂, State.calling_eq h.top, State.setFrames_setFrames, State.pushFrame, State.frames_setTop _ hr', State.setTop_of_frames _ hr', State.setFrames_setFrames, hr]
      rfl
    have hsame : U.sameButNew ({ U with heap := s₂.heap, slotsUsed := s₂.slotsUsed } : State) L mc ms := by
      refine ⟨?_, q2, q3, q4, q5, q6⟩
      obtain ⟨t, ht, -⟩ := State.frames_cons hr
      show ({ U with heap := s₂.heap, slotsUsed := s₂.slotsUsed } : State) = { U.setFrames U.frames with heap := s₂.heap, slotsUsed := s₂.slotsUsed }
      rw [State.setFrames_self ht]
    subst hg
    refine Or.inr ⟨q, ⟨(({ U with heap := s₂.heap, slotsUsed := s₂.slotsUsed } : State).setVm s₂.vm), Ls ++ L, c0 + mc, s0 + ms⟩,
      ⟨X.admits, X.cas, X.clock, X.frames, X.room, X.hears, X.method, X.code, (X.here.setHeapUsed s₂.heap s₂.slotsUsed).setVm hW'.alike, X.tail, State.WarmedH.trans X.warmed hW', X.limits, X.bytes, X.same.trans (hsame.setVm s.vm)⟩,
      ⟨g, mk, s₂, L, E, ce, rfl, rfl, hx, hce, hcv, hcl, rfl, hL, rfl, rfl⟩, ?_⟩
    show Steps p.tables e below _ (((({ U with heap := s₂.heap, slotsUsed := s₂.slotsUsed } : State).setVm s₂.vm).setTop g).pushFrame (.throwing q))
    rw [← hs₂]
    exact hsteps
end Payer
section Calls
variable {p : Program} {l : Launch} {e : Env} {R : Room} {s : State} {m : MethodId} {args : Array Value} {below : List Frame} {meth : Method} {c : Code} {T : State} {locs : List Loc} {cells slots : Nat}
theorem vx_callV (X : Stand p l e R s m args below meth c T locs cells slots) (hexec : p.tables.exec = Jvm.exec) {own C : String} {index : Nat} {y : MethodName} {bytes : ByteArray} {maxL : Nat} {ret : Option FieldType}
    (hown : s.vm.findClass own = some m.cls) (hlink : (Cond.methodLink own index y).before args s = true) (hinst : (Cond.instanceMethod y).before args s = true) (hsel : (Cond.selects C y y).before args s = true)
    (hcode : (Cond.code y bytes maxL ret).before args s = true) (hy : y.cls ≠ "java/lang/invoke/MethodHandle" ∧ y.cls ≠ "java/lang/invoke/VarHandle")
    {W9 : Nat} {Pre : Pt → Array Value → Prop} {Post : Pt → Array Value → Option Value → Pt → Prop} {PostX : Pt → Array Value → Addr → Pt → Prop} (hK : vx_Back l R p e below s args y 3 W9 Pre Post PostX)
    {b : Addr} {cellB : Cell} (hcell : T.heap[b]? = some cellB) (hobj : cellB.vm.isStatics = false) (hcls : s.vm.findClass C = some cellB.cls)
    {g : JFrame} (hg : g.method = m) (hsize : g.locals.size = c.maxLocals) {argsL rest : List Value} (hlen : ∀ sig, parseMethodDescriptor y.desc = some sig → argsL.length = sig.parameters.length)
    (hstack : g.stack = argsL.reverse ++ .ref b :: rest) (hW : 2 * g.monitorRoom + (rest.map fun v => v.category).sum ≤ W9) (hdg : decode c.code g.pc = .ok (.invokevirtual index, 3))
    (hpre : ∀ vm₁, s.WarmedH vm₁ → Pre ⟨T.setVm vm₁, locs, cells, slots⟩ (Value.ref b :: argsL).toArray) :
    (∃ (v : Option Value) (vm₁ : Vm) (B : Pt), s.WarmedH vm₁ ∧ Stand p l e R s m args below meth c B.U B.locs B.cells B.slots ∧ Post ⟨T.setVm vm₁, locs, cells, slots⟩ (Value.ref b :: argsL).toArray v B ∧
      ∀ target, Steps p.tables e below (B.U.setTop { g with pc := g.pc + 3, stack := v.toList ++ rest }) target → Steps p.tables e below (T.setTop g) target) ∨
    (∃ (q : Addr) (vm₁ : Vm) (B : Pt), s.WarmedH vm₁ ∧ Stand p l e R s m args below meth c B.U B.locs B.cells B.slots ∧ PostX ⟨T.setVm vm₁, locs, cells, slots⟩ (Value.ref b :: argsL).toArray q B ∧
      Steps p.tables e below (T.setTop g) ((B.U.setTop { g with stack := rest }).pushFrame (.throwing q))) := by
  obtain ⟨mk, methM, hnamed, hmethM, hstM, habM⟩ := Cond.instanceMethod_spec hinst
  obtain ⟨methM', cM, hmethM', -, -, -, -, -, -, hsigM⟩ := Cond.code_spec hnamed hcode
  cases hmethM.symm.trans hmethM'
  obtain ⟨c2, r2, m2, q1, q2, q3, q4, kP, hkP, hkPi⟩ := Cond.selects_spec hsel
  cases hcls.symm.trans q1
  cases (State.methodFound?_of_named hnamed hy).symm.trans q2
  cases hnamed.symm.trans q3
  have hselP : selectMethod e.platform s.vm cellB.cls mk = .method mk := by rw [Launch.admits_selectMethod X.admits]; exact q4
  obtain ⟨vm₁, X₁, hstep₁⟩ := X.invokevirtual hexec hown hlink hnamed hmethM hstM hkP hkPi hy (a := b) (cell := cellB) hcell
    (fun z h => by rw [h] at hobj; cases hobj) hselP hmethM habM hkP hkPi (g := g) hg (argsL := argsL) (rest := rest) (hlen _ hsigM) hstack hdg
  rcases hK m meth c ⟨T.setVm vm₁, locs, cells, slots⟩ { g with stack := rest } (.invokevirtual index) mk (Value.ref b :: argsL).toArray X₁ hg hsize hdg hW (X₁.named hnamed) (hpre vm₁ X₁.warmed) with ⟨v, B, X', hpost, hsteps⟩ | ⟨q, B, X', hpost, hsteps⟩
  · exact Or.inl ⟨v, vm₁, B, X₁.warmed, X', hpost, fun target h => hstep₁ _ fun acts => by rw [doInvoke_state]; exact hsteps.trans h⟩
  · exact Or.inr ⟨q, vm₁, B, X₁.warmed, X', hpost, hstep₁ _ fun acts => by rw [doInvoke_state]; exact hsteps⟩
theorem vx_callS (X : Stand p l e R s m args below meth c T locs cells slots) (hexec : p.tables.exec = Jvm.exec) {own : String} {index : Nat} {y : MethodName} {bytes : ByteArray} {maxL : Nat} {ret : Option FieldType}
    (hown : s.vm.findClass own = some m.cls) (hlink : (Cond.methodLink own index y).before args s = true) (hstat : (Cond.static y).before args s = true) (hinit : (Cond.initialized y.cls).before args s = true)
    (hcode : (Cond.code y bytes maxL ret).before args s = true) (hy : y.cls ≠ "java/lang/invoke/MethodHandle" ∧ y.cls ≠ "java/lang/invoke/VarHandle")
    {W9 : Nat} {Pre : Pt → Array Value → Prop} {Post : Pt → Array Value → Option Value → Pt → Prop} {PostX : Pt → Array Value → Addr → Pt → Prop} (hK : vx_Back l R p e below s args y 3 W9 Pre Post PostX)
    {g : JFrame} (hg : g.method = m) (hsize : g.locals.size = c.maxLocals) {argsL rest : List Value} (hlen : ∀ sig, parseMethodDescriptor y.desc = some sig → argsL.length = sig.parameters.length)
    (hstack : g.stack = argsL.reverse ++ rest) (hW : 2 * g.monitorRoom + (rest.map fun v => v.category).sum ≤ W9) (hdg : decode c.code g.pc = .ok (.invokestatic index, 3))
    (hpre : ∀ vm₁, s.WarmedH vm₁ → Pre ⟨T.setVm vm₁, locs, cells, slots⟩ argsL.toArray) :
    (∃ (v : Option Value) (vm₁ : Vm) (B : Pt), s.WarmedH vm₁ ∧ Stand p l e R s m args below meth c B.U B.locs B.cells B.slots ∧ Post ⟨T.setVm vm₁, locs, cells, slots⟩ argsL.toArray v B ∧
      ∀ target, Steps p.tables e below (B.U.setTop { g with pc := g.pc + 3, stack := v.toList ++ rest }) target → Steps p.tables e below (T.setTop g) target) ∨
    (∃ (q : Addr) (vm₁ : Vm) (B : Pt), s.WarmedH vm₁ ∧ Stand p l e R s m args below meth c B.U B.locs B.cells B.slots ∧ PostX ⟨T.setVm vm₁, locs, cells, slots⟩ argsL.toArray q B ∧
      Steps p.tables e below (T.setTop g) ((B.U.setTop { g with stack := rest }).pushFrame (.throwing q))) := by
  obtain ⟨mk, hnamed⟩ := Cond.code_named hcode
  obtain ⟨methM, cM, hmethM, -, -, -, -, -, -, hsigM⟩ := Cond.code_spec hnamed hcode
  have hstatic : methM.isStatic = true := Cond.static_spec hnamed hmethM hstat
  obtain ⟨kP, hkP, -⟩ := className_of_methodNamed hnamed
  have hinitP : kP.init = .initialized := Cond.initialized_spec (findClass_of_methodNamed hnamed) hkP hinit
  obtain ⟨vm₁, X₁, hstep₁⟩ := X.invokestatic hexec hown hlink hnamed hmethM hstatic hkP hinitP hy (g := g) hg (argsL := argsL) (rest := rest) (hlen _ hsigM) hstack hdg
  rcases hK m meth c ⟨T.setVm vm₁, locs, cells, slots⟩ { g with stack := rest } (.invokestatic index) mk argsL.toArray X₁ hg hsize hdg hW (X₁.named hnamed) (hpre vm₁ X₁.warmed) with ⟨v, B, X', hpost, hsteps⟩ | ⟨q, B, X', hpost, hsteps⟩
  · exact Or.inl ⟨v, vm₁, B, X₁.warmed, X', hpost, fun target h => hstep₁ _ fun acts => by rw [doInvoke_state]; exact hsteps.trans h⟩
  · exact Or.inr ⟨q, vm₁, B, X₁.warmed, X', hpost, hstep₁ _ fun acts => by rw [doInvoke_state]; exact hsteps⟩
end Calls
theorem vx_cls {s : State} {T : State} {vm₁ : Vm} {E : String} {k : ClassId} (hW : s.WarmedH vm₁) (h : (T.setVm vm₁).vm.findClass E = some k) : s.vm.findClass E = some k := by
  have h1 : vm₁.findClass E = some k := h
  rw [hW.alike.findClass] at h1
  exact h1
/-- the method's frame g, with q thrown over it -/
def vx_W (p : Program) (l : Launch) (e : Env) (R : Room) (s : State) (m : MethodId) (args : Array Value) (below : List Frame) (meth : Method) (c : Code) (H : Heap) (locs : List Loc) (cells slots : Nat) (Q : State → Prop) (g : JFrame) (q : Addr) : Prop :=
  ∀ T : State, T.heap = H → Stand p l e R s m args below meth c T locs cells slots → ∃ t, Steps p.tables e below ((T.setTop g).pushFrame (.throwing q)) t ∧ Q t
def vx_Run (p : Program) (l : Launch) (e : Env) (R : Room) (s : State) (m : MethodId) (args : Array Value) (below : List Frame) (meth : Method) (c : Code) (H : Heap) (locs : List Loc) (cells slots mc ms : Nat) (g : JFrame) (rest : List Value) (Qa : State → Outcome → State → Prop) (XC : String → State → State → Prop) (free : Addr → Prop) : Prop :=
  ∀ T : State, T.heap = H → Stand p l e R s m args below meth c T locs cells slots →
    (∃ (v : Option Value) (st₀ t T' : State) (L : List Loc), st₀.heap = H ∧ Stand p l e R s m args below meth c T' (locs ++ L) (cells + mc) (slots + ms) ∧ (∀ q ∈ L, free q.base) ∧ T'.heap = t.heap ∧ T'.vm = t.vm ∧ Qa st₀ (.returned v) t ∧
      Goes p e below T g T' { g with pc := g.pc + 3, stack := v.toList ++ rest }) ∨
    (∃ (q : Addr) (st₀ t T' : State) (L : List Loc) (E : String) (ce : Cell), st₀.heap = H ∧ Stand p l e R s m args below meth c T' (locs ++ L) (cells + mc) (slots + ms) ∧ (∀ z ∈ L, free z.base) ∧ T'.heap = t.heap ∧ T'.vm = t.vm ∧ XC E st₀ t ∧ t.heap[q]? = some ce ∧ ce.vm = .none ∧ s.vm.findClass E = some ce.cls ∧
      Steps p.tables e below (T.setTop g) ((T'.setTop { g with stack := rest }).pushFrame (.throwing q)))
def vx_X {S : Type} (px : S → Prop) (B : String → S → State → Prop) (A : Nat → Prop) : String → State → State → Prop := fun E st t => ∃ u : S, px u ∧ B E u t ∧ va_F A st t
section Runs
variable {p : Program} {l : Launch} {e : Env} {R : Room} {s : State} {m : MethodId} {args : Array Value} {below : List Frame} {meth : Method} {c : Code} {H : Heap} {locs : List Loc} {cells slots : Nat}
variable {y : MethodName} {bytes cc : ByteArray} {maxL nL mc ms n index : Nat} {ret : Option FieldType} {ws : List Cond} {rm : Room} {Pc : Array Value → State → Prop} {Qc : Array Value → State → Outcome → State → Prop} {XC : String → State → State → Prop} {free : Addr → Prop} {Ts : List Cond} {own C : String} {b : Addr} {As rest : List Value} {g : JFrame}
theorem vx_callBack (cb : CallB R s args own index y bytes maxL ret ws rm mc ms n) (hM : vx_Met l y ws rm Pc Qc XC mc ms free) (hbl : FrameBlind Pc) : vx_Back l R p e below s args y 3 8 (PreOf R mc ms Pc) (PostOf Qc mc ms free) (vx_Post XC mc ms free) := by
  obtain ⟨hrc, hrs, hfr, hlo, hws, hcw, -, hini, -⟩ := cb
  exact vx_back (bytes := bytes) (maxL := maxL) (ret := ret) hM hbl hrc hrs hfr hlo hws hcw (fun a' U hW => word_at hW (Or.inl (by first | rfl | simp [Cond.onTables, Cond.keeps, Cond.steady])) hini)
theorem vx_runV (S : CallFix p m c cc nL s args Ts own) (hM : vx_Met l y ws rm Pc Qc XC mc ms free) (cw : CallW R s args own C index y bytes maxL ret ws rm mc ms n) (hp : PreV s H C b Pc As)
    (hg : g.method = m) (hn : As.length = n) (hsize : g.locals.size = nL) (hstack : g.stack = As.reverse ++ .ref b :: rest) (hW : 2 * g.monitorRoom + (rest.map fun v => v.category).sum ≤ 8) (hdg : decode cc g.pc = .ok (.invokevirtual index, 3)) (hf : cells + mc ≤ R.cells ∧ slots + ms ≤ R.slots) :
    vx_Run p l e R s m args below meth c H locs cells slots mc ms g rest (Qc (Value.ref b :: As).toArray) XC free := by
  have hK : vx_Back l R p e below s args y 3 8 (PreOf R mc ms Pc) (PostOf Qc mc ms free) (vx_Post XC mc ms free) := vx_callBack cw.1 hM hp.1
  obtain ⟨⟨-, -, -, -, -, -, hcode, -, hy, hlen, hl⟩, hin, hse⟩ := cw
  obtain ⟨hx, hb, hml, ho, -⟩ := S
  obtain ⟨-, ⟨cellB, hcB, hoB, hclB⟩, hPc⟩ := hp
  intro T hT X
  rcases vx_callV X hx (C := C) (bytes := bytes) (maxL := maxL) (ret := ret) ho hl hin hse hcode hy hK (by rw [hT]; exact hcB) hoB hclB hg (hsize.trans hml.symm) (argsL := As) (rest := rest) (fun sig h => hn.trans (hlen sig h)) hstack hW (by rw [hb]; exact hdg)
    (fun vm₁ hW₁ => ⟨hf.1, hf.2, hPc (T.setVm vm₁) hT hW₁⟩) with ⟨v, vm₁, ⟨U', l2, c2, s2⟩, hW₁, X', ⟨g', mk, t, L, e1, e2, hq, h1, hL, h2, h3⟩, st⟩ | ⟨q, vm₁, ⟨U', l2, c2, s2⟩, hW₁, X', ⟨g', mk, t, L, E, ce, e1, e2, hq, hce, hcv, hcl, h1, hL, h2, h3⟩, st⟩
  · dsimp only [Pt.U, Pt.locs, Pt.cells, Pt.slots] at X' e1 e2 h1 h2 h3 st
    subst h1; subst h2; subst h3
    exact Or.inl ⟨v, (T.setVm vm₁).calling g' mk (Value.ref b :: As).toArray, t, U', L, hT, X', hL, e1, e2, hq, st⟩
  · dsimp only [Pt.U, Pt.locs, Pt.cells, Pt.slots] at X' e1 e2 h1 h2 h3 st hcl
    subst h1; subst h2; subst h3
    exact Or.inr ⟨q, (T.setVm vm₁).calling g' mk (Value.ref b :: As).toArray, t, U', L, E, ce, hT, X', hL, e1, e2, hq, hce, hcv, vx_cls hW₁ hcl, st⟩
theorem vx_runS (S : CallFix p m c cc nL s args Ts own) (hM : vx_Met l y ws rm Pc Qc XC mc ms free) (cw : CallB R s args own index y bytes maxL ret ws rm mc ms n ∧ (Cond.static y).before args s = true) (hp : PreS s H Pc As)
    (hg : g.method = m) (hn : As.length = n) (hsize : g.locals.size = nL) (hstack : g.stack = As.reverse ++ rest) (hW : 2 * g.monitorRoom + (rest.map fun v => v.category).sum ≤ 8) (hdg : decode cc g.pc = .ok (.invokestatic index, 3)) (hf : cells + mc ≤ R.cells ∧ slots + ms ≤ R.slots) :
    vx_Run p l e R s m args below meth c H locs cells slots mc ms g rest (Qc As.toArray) XC free := by
  have hK : vx_Back l R p e below s args y 3 8 (PreOf R mc ms Pc) (PostOf Qc mc ms free) (vx_Post XC mc ms free) := vx_callBack cw.1 hM hp.1
  obtain ⟨⟨-, -, -, -, -, -, hcode, hini, hy, hlen, hl⟩, hstt⟩ := cw
  obtain ⟨hx, hb, hml, ho, -⟩ := S
  intro T hT X
  rcases vx_callS X hx (bytes := bytes) (maxL := maxL) (ret := ret) ho hl hstt hini hcode hy hK hg (hsize.trans hml.symm) (argsL := As) (rest := rest) (fun sig h => hn.trans (hlen sig h)) hstack hW (by rw [hb]; exact hdg)
    (fun vm₁ hW₁ => ⟨hf.1, hf.2, hp.2 (T.setVm vm₁) hT hW₁⟩) with ⟨v, vm₁, ⟨U', l2, c2, s2⟩, hW₁, X', ⟨g', mk, t, L, e1, e2, hq, h1, hL, h2, h3⟩, st⟩ | ⟨q, vm₁, ⟨U', l2, c2, s2⟩, hW₁, X', ⟨g', mk, t, L, E, ce, e1, e2, hq, hce, hcv, hcl, h1, hL, h2, h3⟩, st⟩
  · dsimp only [Pt.U, Pt.locs, Pt.cells, Pt.slots] at X' e1 e2 h1 h2 h3 st
    subst h1; subst h2; subst h3
    exact Or.inl ⟨v, (T.setVm vm₁).calling g' mk As.toArray, t, U', L, hT, X', hL, e1, e2, hq, st⟩
  · dsimp only [Pt.U, Pt.locs, Pt.cells, Pt.slots] at X' e1 e2 h1 h2 h3 st hcl
    subst h1; subst h2; subst h3
    exact Or.inr ⟨q, (T.setVm vm₁).calling g' mk As.toArray, t, U', L, E, ce, hT, X', hL, e1, e2, hq, hce, hcv, vx_cls hW₁ hcl, st⟩
end Runs
section Rows
variable {p : Program} {l : Launch} {e : Env} {R : Room} {s : State} {m : MethodId} {args : Array Value} {below : List Frame} {meth : Method} {c : Code} {H : Heap} {locs : List Loc} {cells slots : Nat} {Q : State → Prop}
variable {mc ms : Nat} {free : Addr → Prop} {A0 A1 : Nat → Prop} {H0 : Heap} {a : Array Value} {pc : Nat} {ls : Array Slot} {st0 rest : List Value}
theorem vx_keep {st₀ t T' : State} {L : List Loc} (h0 : st₀.heap = H) (e1 : T'.heap = t.heap) (hS : va_S A0 H0 H locs) (hA : ∀ q, q < H.size → A1 q → A0 q) (hf : ∀ q, free q → A0 q) (hL : ∀ q ∈ L, free q.base) (hF : va_F A1 st₀ t) :
    H.size ≤ T'.heap.size ∧ (∀ q : Nat, q < H.size → ¬ A1 q → T'.heap[q]? = H[q]?) ∧ va_S A0 H0 T'.heap (locs ++ L) := by
  obtain ⟨hz, hk⟩ := hF
  rw [h0] at hz hk
  exact ⟨by rw [e1]; exact hz, fun q h1 h2 => by rw [e1]; exact hk q h1 h2,
    ⟨Nat.le_trans hS.1 (by rw [e1]; exact hz), fun q h1 h2 => by rw [e1, hk q (Nat.lt_of_lt_of_le h1 hS.1) (fun z => h2 (hA q (Nat.lt_of_lt_of_le h1 hS.1) z))]; exact hS.2.1 q h1 h2, fun q hq => by
      rcases List.mem_append.mp hq with h | h
      · exact hS.2.2 q h
      · exact hf _ (hL q h)⟩⟩
theorem vx_calli {S SX : Type} {post : Int32 → S → Prop} {px : SX → Prop} {B : S → State → Prop} {BX : String → SX → State → Prop} {AX : Nat → Prop} (hr : vx_Run p l e R s m args below meth c H locs cells slots mc ms (F0 m pc ls st0) rest (va_Qi post B A1 a) (vx_X px BX AX) free) (hS : va_S A0 H0 H locs) (hA : ∀ q, q < H.size → A1 q → A0 q) (hf : ∀ q, free q → A0 q) (hAX : ∀ q, q < H.size → AX q → A0 q)
    (kx : ∀ (E : String) (ce : Cell) (q9 : Addr) (u : SX) (t : State) (H1 : Heap) (locs1 : List Loc), t.heap = H1 → s.vm.Alike t.vm → px u → BX E u t → H.size ≤ H1.size → (∀ q : Nat, q < H.size → ¬ AX q → H1[q]? = H[q]?) → va_S A0 H0 H1 locs1 → H1[q9]? = some ce → ce.vm = .none → s.vm.findClass E = some ce.cls → vx_W p l e R s m args below meth c H1 locs1 (cells + mc) (slots + ms) Q (F0 m pc ls rest) q9)
    (kk : ∀ (r : Int32) (u : S) (t : State) (H1 : Heap) (locs1 : List Loc), t.heap = H1 → s.vm.Alike t.vm → post r u → B u t → H.size ≤ H1.size → (∀ q : Nat, q < H.size → ¬ A1 q → H1[q]? = H[q]?) → va_S A0 H0 H1 locs1 → W p l e R s m args below meth c H1 locs1 (cells + mc) (slots + ms) Q (F0 m (pc + 3) ls (.int r :: rest))) : W p l e R s m args below meth c H locs cells slots Q (F0 m pc ls st0) := by
  intro T hT X
  rcases hr T hT X with ⟨v, st₀, t, T', L, h0, X', hL, e1, e2, ⟨⟨r, u, hv, hp, hb⟩, hF⟩, st⟩ | ⟨q, st₀, t, T', L, E, ce, h0, X', hL, e1, e2, ⟨u, hp, hb, hF⟩, hce, hcv, hcl, st⟩
  · cases hv
    obtain ⟨k1, k2, k3⟩ := vx_keep h0 e1 hS hA hf hL hF
    obtain ⟨t2, a1, b1⟩ := kk r u t T'.heap (locs ++ L) e1.symm (by rw [← e2]; exact X'.warmed.alike) hp hb k1 k2 k3 T' rfl X'
    exact ⟨t2, st t2 a1, b1⟩
  · obtain ⟨k1, k2, k3⟩ := vx_keep h0 e1 hS hAX hf hL hF
    obtain ⟨t2, a1, b1⟩ := kx E ce q u t T'.heap (locs ++ L) e1.symm (by rw [← e2]; exact X'.warmed.alike) hp hb k1 k2 k3 (by rw [e1]; exact hce) hcv hcl T' rfl X'
    exact ⟨t2, st.trans a1, b1⟩
theorem vx_calll {S SX : Type} {post : Int64 → S → Prop} {px : SX → Prop} {B : S → State → Prop} {BX : String → SX → State → Prop} {AX : Nat → Prop} (hr : vx_Run p l e R s m args below meth c H locs cells slots mc ms (F0 m pc ls st0) rest (va_Ql post B A1 a) (vx_X px BX AX) free) (hS : va_S A0 H0 H locs) (hA : ∀ q, q < H.size → A1 q → A0 q) (hf : ∀ q, free q → A0 q) (hAX : ∀ q, q < H.size → AX q → A0 q)
    (kx : ∀ (E : String) (ce : Cell) (q9 : Addr) (u : SX) (t : State) (H1 : Heap) (locs1 : List Loc), t.heap = H1 → s.vm.Alike t.vm → px u → BX E u t → H.size ≤ H1.size → (∀ q : Nat, q < H.size → ¬ AX q → H1[q]? = H[q]?) → va_S A0 H0 H1 locs1 → H1[q9]? = some ce → ce.vm = .none → s.vm.findClass E = some ce.cls → vx_W p l e R s m args below meth c H1 locs1 (cells + mc) (slots + ms) Q (F0 m pc ls rest) q9)
    (kk : ∀ (r : Int64) (u : S) (t : State) (H1 : Heap) (locs1 : List Loc), t.heap = H1 → s.vm.Alike t.vm → post r u → B u t → H.size ≤ H1.size → (∀ q : Nat, q < H.size → ¬ A1 q → H1[q]? = H[q]?) → va_S A0 H0 H1 locs1 → W p l e R s m args below meth c H1 locs1 (cells + mc) (slots + ms) Q (F0 m (pc + 3) ls (.long r :: rest))) : W p l e R s m args below meth c H locs cells slots Q (F0 m pc ls st0) := by
  intro T hT X
  rcases hr T hT X with ⟨v, st₀, t, T', L, h0, X', hL, e1, e2, ⟨⟨r, u, hv, hp, hb⟩, hF⟩, st⟩ | ⟨q, st₀, t, T', L, E, ce, h0, X', hL, e1, e2, ⟨u, hp, hb, hF⟩, hce, hcv, hcl, st⟩
  · cases hv
    obtain ⟨k1, k2, k3⟩ := vx_keep h0 e1 hS hA hf hL hF
    obtain ⟨t2, a1, b1⟩ := kk r u t T'.heap (locs ++ L) e1.symm (by rw [← e2]; exact X'.warmed.alike) hp hb k1 k2 k3 T' rfl X'
    exact ⟨t2, st t2 a1, b1⟩
  · obtain ⟨k1, k2, k3⟩ := vx_keep h0 e1 hS hAX hf hL hF
    obtain ⟨t2, a1, b1⟩ := kx E ce q u t T'.heap (locs ++ L) e1.symm (by rw [← e2]; exact X'.warmed.alike) hp hb k1 k2 k3 (by rw [e1]; exact hce) hcv hcl T' rfl X'
    exact ⟨t2, st.trans a1, b1⟩
theorem vx_callf {S SX : Type} {post : UInt32 → S → Prop} {px : SX → Prop} {B : S → State → Prop} {BX : String → SX → State → Prop} {AX : Nat → Prop} (hr : vx_Run p l e R s m args below meth c H locs cells slots mc ms (F0 m pc ls st0) rest (va_Qf post B A1 a) (vx_X px BX AX) free) (hS : va_S A0 H0 H locs) (hA : ∀ q, q < H.size → A1 q → A0 q) (hf : ∀ q, free q → A0 q) (hAX : ∀ q, q < H.size → AX q → A0 q)
    (kx : ∀ (E : String) (ce : Cell) (q9 : Addr) (u : SX) (t : State) (H1 : Heap) (locs1 : List Loc), t.heap = H1 → s.vm.Alike t.vm → px u → BX E u t → H.size ≤ H1.size → (∀ q : Nat, q < H.size → ¬ AX q → H1[q]? = H[q]?) → va_S A0 H0 H1 locs1 → H1[q9]? = some ce → ce.vm = .none → s.vm.findClass E = some ce.cls → vx_W p l e R s m args below meth c H1 locs1 (cells + mc) (slots + ms) Q (F0 m pc ls rest) q9)
    (kk : ∀ (r : UInt32) (u : S) (t : State) (H1 : Heap) (locs1 : List Loc), t.heap = H1 → s.vm.Alike t.vm → post r u → B u t → H.size ≤ H1.size → (∀ q : Nat, q < H.size → ¬ A1 q → H1[q]? = H[q]?) → va_S A0 H0 H1 locs1 → W p l e R s m args below meth c H1 locs1 (cells + mc) (slots + ms) Q (F0 m (pc + 3) ls (.float r :: rest))) : W p l e R s m args below meth c H locs cells slots Q (F0 m pc ls st0) := by
  intro T hT X
  rcases hr T hT X with ⟨v, st₀, t, T', L, h0, X', hL, e1, e2, ⟨⟨r, u, hv, hp, hb⟩, hF⟩, st⟩ | ⟨q, st₀, t, T', L, E, ce, h0, X', hL, e1, e2, ⟨u, hp, hb, hF⟩, hce, hcv, hcl, st⟩
  · cases hv
    obtain ⟨k1, k2, k3⟩ := vx_keep h0 e1 hS hA hf hL hF
    obtain ⟨t2, a1, b1⟩ := kk r u t T'.heap (locs ++ L) e1.symm (by rw [← e2]; exact X'.warmed.alike) hp hb k1 k2 k3 T' rfl X'
    exact ⟨t2, st t2 a1, b1⟩
  · obtain ⟨k1, k2, k3⟩ := vx_keep h0 e1 hS hAX hf hL hF
    obtain ⟨t2, a1, b1⟩ := kx E ce q u t T'.heap (locs ++ L) e1.symm (by rw [← e2]; exact X'.warmed.alike) hp hb k1 k2 k3 (by rw [e1]; exact hce) hcv hcl T' rfl X'
    exact ⟨t2, st.trans a1, b1⟩
theorem vx_calld {S SX : Type} {post : UInt64 → S → Prop} {px : SX → Prop} {B : S → State → Prop} {BX : String → SX → State → Prop} {AX : Nat → Prop} (hr : vx_Run p l e R s m args below meth c H locs cells slots mc ms (F0 m pc ls st0) rest (va_Qd post B A1 a) (vx_X px BX AX) free) (hS : va_S A0 H0 H locs) (hA : ∀ q, q < H.size → A1 q → A0 q) (hf : ∀ q, free q → A0 q) (hAX : ∀ q, q < H.size → AX q → A0 q)
    (kx : ∀ (E : String) (ce : Cell) (q9 : Addr) (u : SX) (t : State) (H1 : Heap) (locs1 : List Loc), t.heap = H1 → s.vm.Alike t.vm → px u → BX E u t → H.size ≤ H1.size → (∀ q : Nat, q < H.size → ¬ AX q → H1[q]? = H[q]?) → va_S A0 H0 H1 locs1 → H1[q9]? = some ce → ce.vm = .none → s.vm.findClass E = some ce.cls → vx_W p l e R s m args below meth c H1 locs1 (cells + mc) (slots + ms) Q (F0 m pc ls rest) q9)
    (kk : ∀ (r : UInt64) (u : S) (t : State) (H1 : Heap) (locs1 : List Loc), t.heap = H1 → s.vm.Alike t.vm → post r u → B u t → H.size ≤ H1.size → (∀ q : Nat, q < H.size → ¬ A1 q → H1[q]? = H[q]?) → va_S A0 H0 H1 locs1 → W p l e R s m args below meth c H1 locs1 (cells + mc) (slots + ms) Q (F0 m (pc + 3) ls (.double r :: rest))) : W p l e R s m args below meth c H locs cells slots Q (F0 m pc ls st0) := by
  intro T hT X
  rcases hr T hT X with ⟨v, st₀, t, T', L, h0, X', hL, e1, e2, ⟨⟨r, u, hv, hp, hb⟩, hF⟩, st⟩ | ⟨q, st₀, t, T', L, E, ce, h0, X', hL, e1, e2, ⟨u, hp, hb, hF⟩, hce, hcv, hcl, st⟩
  · cases hv
    obtain ⟨k1, k2, k3⟩ := vx_keep h0 e1 hS hA hf hL hF
    obtain ⟨t2, a1, b1⟩ := kk r u t T'.heap (locs ++ L) e1.symm (by rw [← e2]; exact X'.warmed.alike) hp hb k1 k2 k3 T' rfl X'
    exact ⟨t2, st t2 a1, b1⟩
  · obtain ⟨k1, k2, k3⟩ := vx_keep h0 e1 hS hAX hf hL hF
    obtain ⟨t2, a1, b1⟩ := kx E ce q u t T'.heap (locs ++ L) e1.symm (by rw [← e2]; exact X'.warmed.alike) hp hb k1 k2 k3 (by rw [e1]; exact hce) hcv hcl T' rfl X'
    exact ⟨t2, st.trans a1, b1⟩
theorem vx_callv {S SX : Type} {post : S → Prop} {px : SX → Prop} {B : S → State → Prop} {BX : String → SX → State → Prop} {AX : Nat → Prop} (hr : vx_Run p l e R s m args below meth c H locs cells slots mc ms (F0 m pc ls st0) rest (va_Qv post B A1 a) (vx_X px BX AX) free) (hS : va_S A0 H0 H locs) (hA : ∀ q, q < H.size → A1 q → A0 q) (hf : ∀ q, free q → A0 q) (hAX : ∀ q, q < H.size → AX q → A0 q)
    (kx : ∀ (E : String) (ce : Cell) (q9 : Addr) (u : SX) (t : State) (H1 : Heap) (locs1 : List Loc), t.heap = H1 → s.vm.Alike t.vm → px u → BX E u t → H.size ≤ H1.size → (∀ q : Nat, q < H.size → ¬ AX q → H1[q]? = H[q]?) → va_S A0 H0 H1 locs1 → H1[q9]? = some ce → ce.vm = .none → s.vm.findClass E = some ce.cls → vx_W p l e R s m args below meth c H1 locs1 (cells + mc) (slots + ms) Q (F0 m pc ls rest) q9)
    (kk : ∀ (u : S) (t : State) (H1 : Heap) (locs1 : List Loc), t.heap = H1 → s.vm.Alike t.vm → post u → B u t → H.size ≤ H1.size → (∀ q : Nat, q < H.size → ¬ A1 q → H1[q]? = H[q]?) → va_S A0 H0 H1 locs1 → W p l e R s m args below meth c H1 locs1 (cells + mc) (slots + ms) Q (F0 m (pc + 3) ls (rest))) : W p l e R s m args below meth c H locs cells slots Q (F0 m pc ls st0) := by
  intro T hT X
  rcases hr T hT X with ⟨v, st₀, t, T', L, h0, X', hL, e1, e2, ⟨⟨u, hv, hp, hb⟩, hF⟩, st⟩ | ⟨q, st₀, t, T', L, E, ce, h0, X', hL, e1, e2, ⟨u, hp, hb, hF⟩, hce, hcv, hcl, st⟩
  · cases hv
    obtain ⟨k1, k2, k3⟩ := vx_keep h0 e1 hS hA hf hL hF
    obtain ⟨t2, a1, b1⟩ := kk u t T'.heap (locs ++ L) e1.symm (by rw [← e2]; exact X'.warmed.alike) hp hb k1 k2 k3 T' rfl X'
    exact ⟨t2, st t2 a1, b1⟩
  · obtain ⟨k1, k2, k3⟩ := vx_keep h0 e1 hS hAX hf hL hF
    obtain ⟨t2, a1, b1⟩ := kx E ce q u t T'.heap (locs ++ L) e1.symm (by rw [← e2]; exact X'.warmed.alike) hp hb k1 k2 k3 (by rw [e1]; exact hce) hcv hcl T' rfl X'
    exact ⟨t2, st.trans a1, b1⟩
/-- caught by the row x of this method's table; the rows ahead don't take it -/
theorem vx_catch {own name : String} {E : String} {ce : Cell} {q : Addr} (hown : s.vm.findClass own = some m.cls) (pre : List ExceptionTableEntry) (x : ExceptionTableEntry) (suf : List ExceptionTableEntry) (hsplit : c.exceptionTable.toList = pre ++ x :: suf)
    (hpass : ∀ z ∈ pre, covers z pc = false ∨ (z.catchType ≠ 0 ∧ ∃ nm : String, (Cond.classLink own z.catchType nm).before args s = true ∧ va_Nc E nm s)) (hx : covers x pc = true) (h0 : x.catchType ≠ 0)
    (hlink : (Cond.classLink own x.catchType name).before args s = true) (hcast : (Cond.castable E name).before args s = true) (hcell : H[q]? = some ce) (hv : ce.vm = .none) (hcl : s.vm.findClass E = some ce.cls)
    (kk : W p l e R s m args below meth c H locs cells slots Q (F0 m x.handlerPc ls [.ref q])) : vx_W p l e R s m args below meth c H locs cells slots Q (F0 m pc ls rest) q := by
  intro T hT X
  have hpl : e.platform.magicAccessors = ({} : Platform).magicAccessors := by rw [X.admits.platform]
  obtain ⟨c3, c4, hc3, hc4, hasg⟩ := Cond.castable_spec hcast
  cases Option.some.inj (hc3.symm.trans hcl)
  obtain ⟨c5, hc5, hcl5⟩ := Cond.classLink_spec hown hlink e.platform hpl
  cases Option.some.inj (hc4.symm.trans hc5)
  obtain ⟨vm', X', st⟩ := X.thenCaughtThrough q (g := F0 m pc ls rest) rfl (Steps.refl _) (by rw [hT]; exact hcell) (by rw [hv]; rfl) (by obtain ⟨k9, h9, -⟩ := Vm.findClass_spec hcl; exact ⟨k9, h9⟩) pre x suf hsplit
    (fun z hz => by
      rcases hpass z hz with h | ⟨hz0, nm, hl1, hn1⟩
      · exact Or.inl h
      · obtain ⟨c6, hc6, hcl6⟩ := Cond.classLink_spec hown hl1 e.platform hpl
        obtain ⟨a8, b8, h1, h2, h3⟩ := hn1
        cases Option.some.inj (h1.symm.trans hcl)
        cases Option.some.inj (h2.symm.trans hc6)
        exact Or.inr ⟨hz0, _, hcl6, h3⟩) hx (Or.inr ⟨h0, c4, hcl5, hasg⟩)
  obtain ⟨t, a1, b1⟩ := kk (T.setVm vm') hT X'
  exact ⟨t, st.trans a1, b1⟩
end Rows
section Ends
variable {p : Program} {l : Launch} {e : Env} {R : Room} {s : State} {m : MethodId} {args : Array Value} {below : List Frame} {meth : Method} {c : Code} {H : Heap} {locs : List Loc} {cells slots : Nat} {Q : State → Prop}
variable {mc ms : Nat} {free : Addr → Prop} {A0 A1 : Nat → Prop} {H0 : Heap} {a : Array Value} {ls : Array Slot} {st0 rest : List Value}
variable {Qc : Array Value → State → Outcome → State → Prop} {XC : String → State → State → Prop}
/-- what a body that may throw owes at its end -/
def vx_MQ (below : List Frame) (Qc : Array Value → State → Outcome → State → Prop) (XC : String → State → State → Prop) (a : Array Value) (s : State) (mc ms : Nat) (free : Addr → Prop) : State → Prop := fun t =>
  ∃ o, t.status = .running ∧ Ended t below o ∧ vx_Q Qc XC mc ms free a s o t
theorem vx_ret {g : JFrame} {mc ms : Nat} (k : W p l e R s m args below meth c H locs cells slots (MQ below Qc args s mc ms free) g) : W p l e R s m args below meth c H locs cells slots (vx_MQ below Qc XC args s mc ms free) g := by
  intro T hT X
  obtain ⟨t, a1, o, b1, b2, b3, b4⟩ := k T hT X
  exact ⟨t, a1, o, b1, b2, Or.inl ⟨b3, b4⟩⟩
/-- not caught here: it goes on to the caller -/
theorem vx_widen {g : JFrame} {q : Addr} {k n : Nat} (h1 : cells ≤ k) (h2 : slots ≤ n) (kk : vx_W p l e R s m args below meth c H locs k n Q g q) : vx_W p l e R s m args below meth c H locs cells slots Q g q := fun T hT X => kk T hT (stand_widen X h1 h2)
theorem vx_out {pc : Nat} {E : String} {ce : Cell} {q : Addr} {mc ms : Nat} (hout : ∀ x ∈ c.exceptionTable.toList, covers x pc = false) (hlocks : meth.locks = false) (hcell : H[q]? = some ce) (hv : ce.vm = .none) (hcl : s.vm.findClass E = some ce.cls)
    (hx : ∀ t : State, t.heap = H → s.vm.Alike t.vm → XC E s t) (hf : ∀ z ∈ locs, free z.base) (hc : cells ≤ mc) (hs : slots ≤ ms) :
    vx_W p l e R s m args below meth c H locs cells slots (vx_MQ below Qc XC args s mc ms free) (F0 m pc ls rest) q := by
  intro T hT X
  obtain ⟨st1, hrun, hend, hW, hsm⟩ := X.leaveThrown q (g := F0 m pc ls rest) rfl rfl rfl hout hlocks
  have hcell9 : (T.setFrames (.throwing q :: below)).heap[q]? = some ce := by
    show T.heap[q]? = some ce
    rw [hT]; exact hcell
  exact ⟨_, st1, .threw q, hrun, hend, Or.inr ⟨q, rfl, E, ce, locs, hx _ hT hW.alike, hcell9, hv, hcl, hW, hsm.mono hc hs, hf⟩⟩
theorem vx_frame {U : State} {k n : Nat} (h : s.sameButNew ({ U with vm := s.vm } : State) locs k n) : s.heap.size ≤ U.heap.size ∧ ∀ q : Nat, q < s.heap.size → (∀ z ∈ locs, z.base ≠ q) → U.heap[q]? = s.heap[q]? := by
  obtain ⟨-, h2, -, -, -, h6⟩ := h
  refine ⟨h2, fun q hq hz => ?_⟩
  obtain ⟨c9, e1, e2, e3, e4⟩ := h6 q _ (Array.getElem?_eq_getElem hq)
  have hs : c9.slots = (s.heap[q]).slots := Array.ext_getElem? fun i => e4 i fun hm => hz _ hm rfl
  have h9 : c9 = s.heap[q] := by
    rw [hs] at e2
    exact e2
  have e5 : U.heap[q]? = some c9 := e1
  rw [e5, h9, Array.getElem?_eq_getElem hq]
/-- the words of a throw but the four that speak of the heap -/
def vx_no (w : Cond) : Bool := decide (w ≠ .isRef (.static Bundle.tN "UNASSIGNED_STACK" Bundle.steD)) && decide (w ≠ .isRef (.static Bundle.tN "SUPPRESSED_SENTINEL" Bundle.listD)) && decide (w ≠ .laysStatic Bundle.tN "UNASSIGNED_STACK" Bundle.steD) && decide (w ≠ .laysStatic Bundle.tN "SUPPRESSED_SENTINEL" Bundle.listD)
def vx_at0 (own : String) (ic : Nat) (X : String) (names : List String) : List Cond := (Bundle.ownAtoms0 own ic X names).filter vx_no
def vx_atS (own : String) (ic : Nat) (X : String) (names : List String) : List Cond := (Bundle.ownAtoms own ic X names).filter vx_no
/-- a word that the tables alone decide, or a good one -/
def vx_ot (w : Cond) : Bool := w.onTables || goodWord w
theorem vx_ot_at {args a' : Array Value} {s U : State} {w : Cond} (hW : s.WarmedH U.vm) (hvm : s.vm = U.vm) (hg : vx_ot w = true) (h : w.before args s = true) : w.before a' U = true := by
  simp only [vx_ot, Bool.or_eq_true] at hg
  rcases hg with hg | hg
  · exact va_tabs hg hvm h
  · exact word_at hW (good_of_word hg) h
/-- a list's words: the good ones out of the method's own list, the others by premises of their own -/
theorem vx_hat {args : Array Value} {s : State} {L B : List Cond} (h1 : ∀ w ∈ L.filter goodWord, w.before args s = true) (h2 : ∀ w ∈ L.filter (fun w => !goodWord w), w ∈ B) (h3 : ∀ w ∈ B, w.before args s = true) : ∀ w ∈ L, w.before args s = true := by
  intro w hw
  by_cases g : goodWord w = true
  · exact h1 w (List.mem_filter.mpr ⟨hw, g⟩)
  · refine h3 w (h2 w (List.mem_filter.mpr ⟨hw, ?_⟩))
    show (!goodWord w) = true
    cases hgw : goodWord w
    · rfl
    · exact absurd hgw g
theorem vx_c {args : Array Value} {s : State} {w : Cond} {B : List Cond} (h : w.before args s = true) (t : ∀ w ∈ B, w.before args s = true) : ∀ w' ∈ w :: B, w'.before args s = true := fun w' h' => (List.mem_cons.mp h').elim (fun e => by rw [e]; exact h) (t w')
theorem vx_n {args : Array Value} {s : State} : ∀ w ∈ ([] : List Cond), w.before args s = true := fun _ h => nomatch h
theorem vx_own {args : Array Value} {s : State} {L : List Cond} (h1 : ∀ w ∈ L.filter vx_no, w.before args s = true)
    (hU : (Cond.isRef (.static Bundle.tN "UNASSIGNED_STACK" Bundle.steD)).before args s = true) (hN : (Cond.isRef (.static Bundle.tN "SUPPRESSED_SENTINEL" Bundle.listD)).before args s = true)
    (lU : (Cond.laysStatic Bundle.tN "UNASSIGNED_STACK" Bundle.steD).before args s = true) (lN : (Cond.laysStatic Bundle.tN "SUPPRESSED_SENTINEL" Bundle.listD).before args s = true) : ∀ w ∈ L, w.before args s = true := by
  intro w hw
  by_cases e1 : w = .isRef (.static Bundle.tN "UNASSIGNED_STACK" Bundle.steD)
  · rw [e1]; exact hU
  · by_cases e2 : w = .isRef (.static Bundle.tN "SUPPRESSED_SENTINEL" Bundle.listD)
    · rw [e2]; exact hN
    · by_cases e3 : w = .laysStatic Bundle.tN "UNASSIGNED_STACK" Bundle.steD
      · rw [e3]; exact lU
      · by_cases e4 : w = .laysStatic Bundle.tN "SUPPRESSED_SENTINEL" Bundle.listD
        · rw [e4]; exact lN
        · exact h1 w (List.mem_filter.mpr ⟨hw, by unfold vx_no; rw [decide_eq_true e1, decide_eq_true e2, decide_eq_true e3, decide_eq_true e4]; rfl⟩)
/-- where a static field lies, its class's statics cell in H -/
def vx_L (C n d : String) (A : Nat → Prop) (U : State) (H : Heap) : Prop := ∃ (c : ClassId) (k : Class) (i : Nat) (f : Field) (a : Nat) (cell : Cell), U.vm.findClass C = some c ∧ U.fieldFound? C n d = some (c, k, i, f) ∧ f.isStatic = true ∧ k.statics = some a ∧ H[a]? = some cell ∧ cell.vm.isStatics = true ∧ cell.cls = c ∧ f.slot < cell.slots.size ∧ k.staticTypes[f.slot]? = some f.type ∧ ¬ A a
theorem vx_L.moved {C n d : String} {A : Nat → Prop} {u U : State} {H : Heap} (hvm : u.vm.Alike U.vm) (h : vx_L C n d A u H) : vx_L C n d A U H := by
  obtain ⟨c, k, i, f, a, cell, h1, h2, h3, h4, h5, h6, h7, h8, h9, h10⟩ := h
  obtain ⟨k', hi', he⟩ := State.fieldFound?_setVm hvm h2
  exact ⟨c, k', i, f, a, cell, by rw [hvm.findClass]; exact h1, hi', h3, by rw [he]; exact h4, h5, h6, h7, h8, by rw [he]; exact h9, h10⟩
theorem vx_L.kept {C n d : String} {A : Nat → Prop} {U : State} {H H1 : Heap} (h : vx_L C n d A U H) (hq : ∀ a : Nat, a < H.size → ¬ A a → H1[a]? = H[a]?) : vx_L C n d A U H1 := by
  obtain ⟨c, k, i, f, a, cell, h1, h2, h3, h4, h5, h6, h7, h8, h9, h10⟩ := h
  exact ⟨c, k, i, f, a, cell, h1, h2, h3, h4, by rw [hq a (Array.getElem?_eq_some_iff.mp h5).1 h10]; exact h5, h6, h7, h8, h9, h10⟩
theorem vx_L.narrow {C n d : String} {A B : Nat → Prop} {U : State} {H : Heap} (h : vx_L C n d A U H) (hAB : ∀ q, B q → A q) : vx_L C n d B U H := by
  obtain ⟨c, k, i, f, a, cell, h1, h2, h3, h4, h5, h6, h7, h8, h9, h10⟩ := h
  exact ⟨c, k, i, f, a, cell, h1, h2, h3, h4, h5, h6, h7, h8, h9, fun z => h10 (hAB _ z)⟩
theorem vx_L.word {C n d : String} {A : Nat → Prop} {s : State} {args : Array Value} (h : vx_L C n d A s s.heap) : (Cond.laysStatic C n d).before args s = true := by
  obtain ⟨c, k, i, f, a, cell, h1, h2, h3, h4, h5, h6, h7, h8, h9, -⟩ := h
  show (Cond.laysStatic C n d).holds args s none s [] = true
  exact Cond.laysStatic_of h1 h2 h3 h4 h5 h6 h7 h8 h9
/-- .. and what it holds: null or some reference -/
def vx_Zq (C n d : String) (A : Nat → Prop) (U : State) (H : Heap) : Prop := va_Zq C n d A U H ∧ vx_L C n d A U H
theorem vx_Zq.moved {C n d : String} {A : Nat → Prop} {u U : State} {H : Heap} (hvm : u.vm.Alike U.vm) (h : vx_Zq C n d A u H) : vx_Zq C n d A U H := ⟨va_Zq.moved hvm h.1, vx_L.moved hvm h.2⟩
theorem vx_Zq.kept {C n d : String} {A : Nat → Prop} {U : State} {H H1 : Heap} (h : vx_Zq C n d A U H) (hq : ∀ a : Nat, a < H.size → ¬ A a → H1[a]? = H[a]?) : vx_Zq C n d A U H1 := ⟨va_Zq.kept h.1 hq, vx_L.kept h.2 hq⟩
theorem vx_Zq.narrow {C n d : String} {A B : Nat → Prop} {U : State} {H : Heap} (h : vx_Zq C n d A U H) (hAB : ∀ q, B q → A q) : vx_Zq C n d B U H := ⟨va_Zq.narrow h.1 hAB, vx_L.narrow h.2 hAB⟩
theorem vx_Zqof {args : Array Value} {s : State} {C n d : String} {A : Nat → Prop} (hl : (Cond.laysStatic C n d).before args s = true) (hini : (Cond.initialized C).before args s = true) (h : (Cond.isRef (.static C n d)).before args s = true) (hA : ∀ a : Nat, a < s.heap.size → ¬ A a) : vx_Zq C n d A s s.heap := by
  refine ⟨va_Zqof hl hini h hA, ?_⟩
  obtain ⟨c, k, i, f, a, cell, h1, h2, h3, h4, h5, h6, h7, h8, h9⟩ := Cond.laysStatic_spec hl
  exact ⟨c, k, i, f, a, cell, h1, h2, h3, h4, h5, h6, h7, h8, h9, hA a (Array.getElem?_eq_some_iff.mp h5).1⟩
theorem vx_isRef {C n d : String} {v : Value} {A : Nat → Prop} {s : State} {args : Array Value} (h : va_Z C n d v A s s.heap) (hv : v.isRef = true) : (Cond.isRef (.static C n d)).before args s = true := by
  obtain ⟨cf, kf, fi, f, a, cell, h1, h2, h3, h4, h5, h6, h7, -⟩ := h
  have he : (Term.static C n d).eval args s none [] s = some v := by
    simp [Term.eval, State.fieldNamed?, h1, h2, h4, h5, h6, h7]
  simp only [Cond.before, Cond.holds, Cond.value, he]
  cases v <;> simp_all [Value.isRef]
theorem vx_isRefq {C n d : String} {A : Nat → Prop} {s : State} {args : Array Value} (h : va_Zq C n d A s s.heap) : (Cond.isRef (.static C n d)).before args s = true := by
  rcases h with h | ⟨t, h⟩
  · exact vx_isRef h rfl
  · exact vx_isRef h rfl
/-- the same frame, seen from here: as if the method were called anew in this heap -/
theorem vx_rebase {T : State} (X : Stand p l e R s m args below meth c T locs cells slots) {R' : Room} (hf : R'.frames ≤ R.frames) (hl : R'.locals ≤ R.locals) (hc : cells + R'.cells ≤ R.cells) (hs : slots + R'.slots ≤ R.slots) :
    Stand p l e R' ((T.setVm s.vm).setFrames (.invoking m args :: below)) m args below meth c T [] 0 0 := by
  have htop : (T.setVm s.vm).topJava?.isSome := X.here.top
  have hF : ((T.setVm s.vm).setFrames (.invoking m args :: below)).frames = .invoking m args :: below := State.frames_setFrames _ (State.cur_lt_of_top htop)
  obtain ⟨g₀, hg0⟩ := Option.isSome_iff_exists.mp htop
  obtain ⟨r, hr⟩ := State.topJava?_eq_some.mp hg0
  have hl9 : e.platform.stackLimits (T.setVm s.vm).me = e.platform.stackLimits s.me := X.limits
  have hb9 : (T.setVm s.vm).me.stackBytes = s.me.stackBytes := X.bytes
  refine ⟨X.admits, X.cas, X.clock, hF, ?_, X.hears, X.method, X.code, X.here, X.tail, X.warmed, ?_, ?_, ?_⟩
  · have h := X.room
    have hU : ((T.setVm s.vm).setFrames (.invoking m args :: below)).localsInUse = s.localsInUse := by
      rw [State.localsInUse_invoking hF (meth := meth) (c := c) X.method X.code, State.localsInUse_invoking X.frames X.method X.code]
    simp only [State.hasRoom, Bool.and_eq_true, decide_eq_true_eq] at h ⊢
    obtain ⟨⟨⟨⟨h1, h2, h3, h4, h5, h6⟩, h7⟩, h8⟩, h9⟩ := h
    rw [X.frames, List.length_cons] at h2 h3
    have q1 := X.heapSize
    have q2 := X.used
    simp only [hF, hU, List.length_cons, State.stackLimits_setFrames, State.stackBytes_setFrames, hl9, hb9]
    refine ⟨⟨⟨⟨by omega, by omega, by omega, by omega, by omega, h6⟩, ?_⟩, ?_⟩, X.book⟩
    · show T.heap.size + R'.cells ≤ e.platform.maxCells
      omega
    · show T.slotsUsed + R'.slots ≤ e.platform.maxSlots
      omega
  · rw [State.stackLimits_setFrames]; rfl
  · rw [State.stackBytes_setFrames]; rfl
  · refine ⟨?_, Nat.le_refl _, Nat.le_refl _, ?_, ?_, fun a c9 h9 => ⟨c9, h9, rfl, rfl, fun _ _ => rfl⟩⟩
    · obtain ⟨t, ht, -⟩ := State.frames_cons hr
      show T.setVm s.vm = { ((T.setVm s.vm).setFrames (.invoking m args :: below)).setFrames (T.setVm s.vm).frames with heap := T.heap, slotsUsed := T.slotsUsed }
      rw [State.setFrames_setFrames, State.setFrames_self ht]
      rfl
    · show T.slotsUsed = T.slotsUsed + ((T.heap.toList.drop T.heap.size).map (·.slots.size)).sum
      rw [List.drop_eq_nil_of_le (Nat.le_of_eq Array.length_toList)]
      rfl
    · show ((T.heap.toList.drop T.heap.size).map (·.slots.size)).sum ≤ 0
      rw [List.drop_eq_nil_of_le (Nat.le_of_eq Array.length_toList)]
      exact Nat.le_refl _
/-- 'throw new E()': new; dup; invokespecial; athrow -/
theorem vx_throw0 {cc : ByteArray} {pc : Nat} (hexec : p.tables.exec = Jvm.exec) (hb : c.code = cc) (hl : l.stackTraces = false) {own cls : String} {names : List String} {ik ic mc ms : Nat} {A : Nat → Prop}
    (hown : s.vm.findClass own = some m.cls) (hcls : Bundle.fit cls = true) (hnames : ∀ n ∈ names, Bundle.fit n = true)
    (hk : (Cond.classLink own ik cls).before args s = true) (hini : (Cond.initialized cls).before args s = true) (hat : ∀ w ∈ vx_at0 own ic cls names, w.before args s = true)
    (hgood : ∀ w ∈ Cond.classLink own ik cls :: Cond.initialized cls :: vx_at0 own ic cls names, vx_ot w = true)
    (hU : vx_Zq Bundle.tN "UNASSIGNED_STACK" Bundle.steD A s s.heap) (hN : vx_Zq Bundle.tN "SUPPRESSED_SENTINEL" Bundle.listD A s s.heap) (hS : va_S A s.heap H locs) (hsize : ls.size = c.maxLocals)
    (d0 : decode cc pc = .ok (.new ik, 3)) (d3 : decode cc (pc + 3) = .ok (.dup, 1)) (d4 : decode cc (pc + 4) = .ok (.invokespecial ic, 3)) (d7 : decode cc (pc + 7) = .ok (.athrow, 1))
    (hout : ∀ x ∈ c.exceptionTable.toList, covers x (pc + 7) = false)
    (hRframes : names.length + 3 < R.frames) (hRlocals : (rest.map fun v => v.category).sum + (13 * (names.length + 1) + 42) ≤ R.locals) (hRcells : cells + 1 ≤ R.cells) (hRslots : slots + 6 ≤ R.slots) (hlocks : meth.locks = false)
    (hx : ∀ t : State, s.vm.Alike t.vm → H.size ≤ t.heap.size → (∀ q : Nat, q < H.size → t.heap[q]? = H[q]?) → XC cls s t)
    (hf : ∀ z ∈ locs, free z.base) (hc : cells + 1 ≤ mc) (hs : slots + 6 ≤ ms) :
    W p l e R s m args below meth c H locs cells slots (vx_MQ below Qc XC args s mc ms free) (F0 m pc ls rest) := by
  intro T hT X
  have htr : e.platform.stackTraces = false := (show e.platform.stackTraces = l.stackTraces by rw [X.admits.platform]).trans hl
  have Y := vx_rebase X (R' := { frames := R.frames, locals := R.locals, cells := 1, slots := 6 }) (Nat.le_refl _) (Nat.le_refl _) hRcells hRslots
  obtain ⟨s', hA⟩ : ∃ z, z = (T.setVm s.vm).setFrames (.invoking m args :: below) := ⟨_, rfl⟩
  rw [← hA] at Y
  have hvm : s'.vm = s.vm := by rw [hA]; rfl
  have hhp : s'.heap = H := by rw [hA]; exact hT
  have hW0 : s.WarmedH s'.vm := by rw [hvm]; exact State.WarmedH.refl s
  have hat' : ∀ w ∈ vx_at0 own ic cls names, w.before args s' = true := fun w hw => vx_ot_at hW0 hvm.symm (hgood w (List.mem_cons_of_mem _ (List.mem_cons_of_mem _ hw))) (hat w hw)
  have hk' : (Cond.classLink own ik cls).before args s' = true := vx_ot_at hW0 hvm.symm (hgood _ List.mem_cons_self) hk
  have hini' : (Cond.initialized cls).before args s' = true := vx_ot_at hW0 hvm.symm (hgood _ (List.mem_cons_of_mem _ List.mem_cons_self)) hini
  have hU' : vx_Zq Bundle.tN "UNASSIGNED_STACK" Bundle.steD A s' s'.heap := by rw [hhp]; exact vx_Zq.moved hW0.alike (hU.kept hS.2.1)
  have hN' : vx_Zq Bundle.tN "SUPPRESSED_SENTINEL" Bundle.listD A s' s'.heap := by rw [hhp]; exact vx_Zq.moved hW0.alike (hN.kept hS.2.1)
  have h : ∀ w ∈ Bundle.ownAtoms0 own ic cls names, w.before args s' = true := vx_own hat' (vx_isRefq hU'.1) (vx_isRefq hN'.1) hU'.2.word hN'.2.word
  have hown' : s'.vm.findClass own = some m.cls := by rw [hvm]; exact hown
  have hins : (Cond.instantiable cls 6).before args s' = true := h _ (by simp [Bundle.ownAtoms0])
  obtain ⟨vm₁, cX, kX, hfX, hkX, -, -, X₁, st1⟩ := Y.newCold hexec (own := own) (C := cls) (index := ik) (n := 6) hown' hk' hins hini'
    (g := F0 m pc ls rest) rfl (by rw [hb]; exact d0) (Nat.le_refl _) (Nat.le_refl _)
  generalize hT1 : (T.setVm vm₁).pushCell { cls := cX, slots := kX.instanceTypes.map defaultValue, vm := .none } = T1 at X₁ st1
  have hcat : (Value.ref T.heap.size).category = 1 := rfl
  have hcellA : T1.heap[T.heap.size]? = some (freshCell cX kX) := by rw [← hT1]; exact State.heap_pushCell_size _ _
  have d3' : decode c.code (pc + 3) = .ok (.dup, 1) := by rw [hb]; exact d3
  obtain ⟨U, hsteps, hrun, hend, hW, hsame, ce, hce, hO⟩ := X₁.ctorThrow0 hexec htr (own := own) (cls := cls) (names := names) (ic := ic) hown' hcls hnames h (fun x hx => nomatch hx) hfX hkX hcellA (by rw [hhp, hT]; exact Nat.le_refl _)
    (g := { method := m, pc := pc + 4, locals := ls, stack := .ref T.heap.size :: .ref T.heap.size :: rest, locked := none }) rfl hsize rfl rfl (rest := rest) rfl
    (by rw [hb]; exact d4) (by rw [hb]; exact d7) hout hRframes (by simp only [List.map_cons, List.sum_cons, hcat]; omega) hlocks
  obtain ⟨f1, f2⟩ := vx_frame hsame
  rw [hhp] at f1 f2
  have hWs : s.WarmedH U.vm := State.WarmedH.trans hW0 hW
  have hcl : s.vm.findClass cls = some ce.cls := by
    have h9 := hO.cls
    rw [hvm] at h9
    exact h9
  have hall : s.sameButNew ({ U with vm := s.vm } : State) locs mc ms := by
    subst hA
    obtain ⟨e1, e2⟩ := hsame
    rw [State.setFrames_setFrames] at e1
    have h2 : (T.setVm s.vm).sameButNew ({ U with vm := s.vm } : State) [] (0 + 1) (0 + 6) := ⟨e1, e2⟩
    have h3 := X.same.trans h2
    rw [List.append_nil] at h3
    exact h3.mono hc hs
  refine ⟨U, ?_, .threw T.heap.size, hrun, hend, Or.inr ⟨T.heap.size, rfl, cls, ce, locs, hx U hWs.alike f1 (fun q hq => f2 q hq (fun z hz => nomatch hz)), hce, hO.vm, hcl, hWs, hall, hf⟩⟩
  refine st1 _ ?_
  show Steps p.tables e below (T1.setTop { method := m, pc := pc + 3, locals := ls, stack := .ref T.heap.size :: rest, locked := none }) _
  jvm_step X₁.here [X₁.here.top, hexec, d3', Value.category]
  exact hsteps
/-- 'throw new E("text")': new; dup; ldc; invokespecial; athrow -/
theorem vx_throwS {cc : ByteArray} {pc : Nat} (hexec : p.tables.exec = Jvm.exec) (hb : c.code = cc) (hl : l.stackTraces = false) {own cls text : String} {names : List String} {ik is ic mc ms sa : Nat} {A : Nat → Prop}
    (hown : s.vm.findClass own = some m.cls) (hcls : Bundle.fit cls = true) (hnames : ∀ n ∈ names, Bundle.fit n = true)
    (hk : (Cond.classLink own ik cls).before args s = true) (hini : (Cond.initialized cls).before args s = true) (hstr : vk_R own is text sa s) (hat : ∀ w ∈ vx_atS own ic cls names, w.before args s = true)
    (hgood : ∀ w ∈ Cond.classLink own ik cls :: Cond.initialized cls :: vx_atS own ic cls names, vx_ot w = true)
    (hU : vx_Zq Bundle.tN "UNASSIGNED_STACK" Bundle.steD A s s.heap) (hN : vx_Zq Bundle.tN "SUPPRESSED_SENTINEL" Bundle.listD A s s.heap) (hS : va_S A s.heap H locs) (hsize : ls.size = c.maxLocals)
    (d0 : decode cc pc = .ok (.new ik, 3)) (d3 : decode cc (pc + 3) = .ok (.dup, 1)) (d4 : decode cc (pc + 4) = .ok (.ldc is, 2)) (d6 : decode cc (pc + 6) = .ok (.invokespecial ic, 3)) (d9 : decode cc (pc + 9) = .ok (.athrow, 1))
    (hout : ∀ x ∈ c.exceptionTable.toList, covers x (pc + 9) = false)
    (hRframes : names.length + 3 < R.frames) (hRlocals : (rest.map fun v => v.category).sum + (13 * (names.length + 1) + 43) ≤ R.locals) (hRcells : cells + 1 ≤ R.cells) (hRslots : slots + 6 ≤ R.slots) (hlocks : meth.locks = false)
    (hx : ∀ t : State, s.vm.Alike t.vm → H.size ≤ t.heap.size → (∀ q : Nat, q < H.size → t.heap[q]? = H[q]?) → XC cls s t)
    (hf : ∀ z ∈ locs, free z.base) (hc : cells + 1 ≤ mc) (hs : slots + 6 ≤ ms) :
    W p l e R s m args below meth c H locs cells slots (vx_MQ below Qc XC args s mc ms free) (F0 m pc ls rest) := by
  intro T hT X
  have htr : e.platform.stackTraces = false := (show e.platform.stackTraces = l.stackTraces by rw [X.admits.platform]).trans hl
  have Y := vx_rebase X (R' := { frames := R.frames, locals := R.locals, cells := 1, slots := 6 }) (Nat.le_refl _) (Nat.le_refl _) hRcells hRslots
  obtain ⟨s', hA⟩ : ∃ z, z = (T.setVm s.vm).setFrames (.invoking m args :: below) := ⟨_, rfl⟩
  rw [← hA] at Y
  have hvm : s'.vm = s.vm := by rw [hA]; rfl
  have hhp : s'.heap = H := by rw [hA]; exact hT
  have hW0 : s.WarmedH s'.vm := by rw [hvm]; exact State.WarmedH.refl s
  have hat' : ∀ w ∈ vx_atS own ic cls names, w.before args s' = true := fun w hw => vx_ot_at hW0 hvm.symm (hgood w (List.mem_cons_of_mem _ (List.mem_cons_of_mem _ hw))) (hat w hw)
  have hk' : (Cond.classLink own ik cls).before args s' = true := vx_ot_at hW0 hvm.symm (hgood _ List.mem_cons_self) hk
  have hini' : (Cond.initialized cls).before args s' = true := vx_ot_at hW0 hvm.symm (hgood _ (List.mem_cons_of_mem _ List.mem_cons_self)) hini
  have hU' : vx_Zq Bundle.tN "UNASSIGNED_STACK" Bundle.steD A s' s'.heap := by rw [hhp]; exact vx_Zq.moved hW0.alike (hU.kept hS.2.1)
  have hN' : vx_Zq Bundle.tN "SUPPRESSED_SENTINEL" Bundle.listD A s' s'.heap := by rw [hhp]; exact vx_Zq.moved hW0.alike (hN.kept hS.2.1)
  have h : ∀ w ∈ Bundle.ownAtoms own ic cls names, w.before args s' = true := vx_own hat' (vx_isRefq hU'.1) (vx_isRefq hN'.1) hU'.2.word hN'.2.word
  have hown' : s'.vm.findClass own = some m.cls := by rw [hvm]; exact hown
  have hins : (Cond.instantiable cls 6).before args s' = true := h _ (by simp [Bundle.ownAtoms])
  obtain ⟨vm₁, cX, kX, hfX, hkX, -, -, X₁, st1⟩ := Y.newCold hexec (own := own) (C := cls) (index := ik) (n := 6) hown' hk' hins hini'
    (g := F0 m pc ls rest) rfl (by rw [hb]; exact d0) (Nat.le_refl _) (Nat.le_refl _)
  generalize hT1 : (T.setVm vm₁).pushCell { cls := cX, slots := kX.instanceTypes.map defaultValue, vm := .none } = T1 at X₁ st1
  have hcat : (Value.ref T.heap.size).category = 1 := rfl
  have hcellA : T1.heap[T.heap.size]? = some (freshCell cX kX) := by rw [← hT1]; exact State.heap_pushCell_size _ _
  have d3' : decode c.code (pc + 3) = .ok (.dup, 1) := by rw [hb]; exact d3
  have d4' : decode c.code (pc + 4) = .ok (.ldc is, 2) := by rw [hb]; exact d4
  have hstr' : vk_R own is text sa s' := vk_R.warm hW0 hstr
  obtain ⟨U, hsteps, hrun, hend, hW, hsame, ce, hce, hO⟩ := X₁.ctorThrowS hexec htr (own := own) (cls := cls) (names := names) (ic := ic) hown' hcls hnames h (fun x hx => nomatch hx) hfX hkX hcellA (by rw [hhp, hT]; exact Nat.le_refl _) (msg := .ref sa) rfl
    (g := { method := m, pc := pc + 6, locals := ls, stack := .ref sa :: .ref T.heap.size :: .ref T.heap.size :: rest, locked := none }) rfl hsize rfl rfl (rest := rest) rfl
    (by rw [hb]; exact d6) (by rw [hb]; exact d9) hout hRframes (by simp only [List.map_cons, List.sum_cons, hcat]; omega) hlocks
  obtain ⟨f1, f2⟩ := vx_frame hsame
  rw [hhp] at f1 f2
  have hWs : s.WarmedH U.vm := State.WarmedH.trans hW0 hW
  have hcl : s.vm.findClass cls = some ce.cls := by
    have h9 := hO.cls
    rw [hvm] at h9
    exact h9
  have hall : s.sameButNew ({ U with vm := s.vm } : State) locs mc ms := by
    subst hA
    obtain ⟨e1, e2⟩ := hsame
    rw [State.setFrames_setFrames] at e1
    have h2 : (T.setVm s.vm).sameButNew ({ U with vm := s.vm } : State) [] (0 + 1) (0 + 6) := ⟨e1, e2⟩
    have h3 := X.same.trans h2
    rw [List.append_nil] at h3
    exact h3.mono hc hs
  refine ⟨U, ?_, .threw T.heap.size, hrun, hend, Or.inr ⟨T.heap.size, rfl, cls, ce, locs, hx U hWs.alike f1 (fun q hq => f2 q hq (fun z hz => nomatch hz)), hce, hO.vm, hcl, hWs, hall, hf⟩⟩
  refine st1 _ ?_
  show Steps p.tables e below (T1.setTop { method := m, pc := pc + 3, locals := ls, stack := .ref T.heap.size :: rest, locked := none }) _
  jvm_step X₁.here [X₁.here.top, hexec, d3', Value.category]
  exact X₁.ldcString hexec (own := own) (text := text) (index := is) (a := sa) hown' hstr'.1 hstr'.2
    (g := { method := m, pc := pc + 4, locals := ls, stack := .ref T.heap.size :: .ref T.heap.size :: rest, locked := none }) rfl d4' _ hsteps
/-- 'throw new E("text")', the text by a wide index -/
theorem vx_throwSW {cc : ByteArray} {pc : Nat} (hexec : p.tables.exec = Jvm.exec) (hb : c.code = cc) (hl : l.stackTraces = false) {own cls text : String} {names : List String} {ik is ic mc ms sa : Nat} {A : Nat → Prop}
    (hown : s.vm.findClass own = some m.cls) (hcls : Bundle.fit cls = true) (hnames : ∀ n ∈ names, Bundle.fit n = true)
    (hk : (Cond.classLink own ik cls).before args s = true) (hini : (Cond.initialized cls).before args s = true) (hstr : vk_R own is text sa s) (hat : ∀ w ∈ vx_atS own ic cls names, w.before args s = true)
    (hgood : ∀ w ∈ Cond.classLink own ik cls :: Cond.initialized cls :: vx_atS own ic cls names, vx_ot w = true)
    (hU : vx_Zq Bundle.tN "UNASSIGNED_STACK" Bundle.steD A s s.heap) (hN : vx_Zq Bundle.tN "SUPPRESSED_SENTINEL" Bundle.listD A s s.heap) (hS : va_S A s.heap H locs) (hsize : ls.size = c.maxLocals)
    (d0 : decode cc pc = .ok (.new ik, 3)) (d3 : decode cc (pc + 3) = .ok (.dup, 1)) (d4 : decode cc (pc + 4) = .ok (.ldc_w is, 3)) (d7 : decode cc (pc + 7) = .ok (.invokespecial ic, 3)) (d10 : decode cc (pc + 10) = .ok (.athrow, 1))
    (hout : ∀ x ∈ c.exceptionTable.toList, covers x (pc + 10) = false)
    (hRframes : names.length + 3 < R.frames) (hRlocals : (rest.map fun v => v.category).sum + (13 * (names.length + 1) + 43) ≤ R.locals) (hRcells : cells + 1 ≤ R.cells) (hRslots : slots + 6 ≤ R.slots) (hlocks : meth.locks = false)
    (hx : ∀ t : State, s.vm.Alike t.vm → H.size ≤ t.heap.size → (∀ q : Nat, q < H.size → t.heap[q]? = H[q]?) → XC cls s t)
    (hf : ∀ z ∈ locs, free z.base) (hc : cells + 1 ≤ mc) (hs : slots + 6 ≤ ms) :
    W p l e R s m args below meth c H locs cells slots (vx_MQ below Qc XC args s mc ms free) (F0 m pc ls rest) := by
  intro T hT X
  have htr : e.platform.stackTraces = false := (show e.platform.stackTraces = l.stackTraces by rw [X.admits.platform]).trans hl
  have Y := vx_rebase X (R' := { frames := R.frames, locals := R.locals, cells := 1, slots := 6 }) (Nat.le_refl _) (Nat.le_refl _) hRcells hRslots
  obtain ⟨s', hA⟩ : ∃ z, z = (T.setVm s.vm).setFrames (.invoking m args :: below) := ⟨_, rfl⟩
  rw [← hA] at Y
  have hvm : s'.vm = s.vm := by rw [hA]; rfl
  have hhp : s'.heap = H := by rw [hA]; exact hT
  have hW0 : s.WarmedH s'.vm := by rw [hvm]; exact State.WarmedH.refl s
  have hat' : ∀ w ∈ vx_atS own ic cls names, w.before args s' = true := fun w hw => vx_ot_at hW0 hvm.symm (hgood w (List.mem_cons_of_mem _ (List.mem_cons_of_mem _ hw))) (hat w hw)
  have hk' : (Cond.classLink own ik cls).before args s' = true := vx_ot_at hW0 hvm.symm (hgood _ List.mem_cons_self) hk
  have hini' : (Cond.initialized cls).before args s' = true := vx_ot_at hW0 hvm.symm (hgood _ (List.mem_cons_of_mem _ List.mem_cons_self)) hini
  have hU' : vx_Zq Bundle.tN "UNASSIGNED_STACK" Bundle.steD A s' s'.heap := by rw [hhp]; exact vx_Zq.moved hW0.alike (hU.kept hS.2.1)
  have hN' : vx_Zq Bundle.tN "SUPPRESSED_SENTINEL" Bundle.listD A s' s'.heap := by rw [hhp]; exact vx_Zq.moved hW0.alike (hN.kept hS.2.1)
  have h : ∀ w ∈ Bundle.ownAtoms own ic cls names, w.before args s' = true := vx_own hat' (vx_isRefq hU'.1) (vx_isRefq hN'.1) hU'.2.word hN'.2.word
  have hown' : s'.vm.findClass own = some m.cls := by rw [hvm]; exact hown
  have hins : (Cond.instantiable cls 6).before args s' = true := h _ (by simp [Bundle.ownAtoms])
  obtain ⟨vm₁, cX, kX, hfX, hkX, -, -, X₁, st1⟩ := Y.newCold hexec (own := own) (C := cls) (index := ik) (n := 6) hown' hk' hins hini'
    (g := F0 m pc ls rest) rfl (by rw [hb]; exact d0) (Nat.le_refl _) (Nat.le_refl _)
  generalize hT1 : (T.setVm vm₁).pushCell { cls := cX, slots := kX.instanceTypes.map defaultValue, vm := .none } = T1 at X₁ st1
  have hcat : (Value.ref T.heap.size).category = 1 := rfl
  have hcellA : T1.heap[T.heap.size]? = some (freshCell cX kX) := by rw [← hT1]; exact State.heap_pushCell_size _ _
  have d3' : decode c.code (pc + 3) = .ok (.dup, 1) := by rw [hb]; exact d3
  have d4' : decode c.code (pc + 4) = .ok (.ldc_w is, 3) := by rw [hb]; exact d4
  have hstr' : vk_R own is text sa s' := vk_R.warm hW0 hstr
  obtain ⟨U, hsteps, hrun, hend, hW, hsame, ce, hce, hO⟩ := X₁.ctorThrowS hexec htr (own := own) (cls := cls) (names := names) (ic := ic) hown' hcls hnames h (fun x hx => nomatch hx) hfX hkX hcellA (by rw [hhp, hT]; exact Nat.le_refl _) (msg := .ref sa) rfl
    (g := { method := m, pc := pc + 7, locals := ls, stack := .ref sa :: .ref T.heap.size :: .ref T.heap.size :: rest, locked := none }) rfl hsize rfl rfl (rest := rest) rfl
    (by rw [hb]; exact d7) (by rw [hb]; exact d10) hout hRframes (by simp only [List.map_cons, List.sum_cons, hcat]; omega) hlocks
  obtain ⟨f1, f2⟩ := vx_frame hsame
  rw [hhp] at f1 f2
  have hWs : s.WarmedH U.vm := State.WarmedH.trans hW0 hW
  have hcl : s.vm.findClass cls = some ce.cls := by
    have h9 := hO.cls
    rw [hvm] at h9
    exact h9
  have hall : s.sameButNew ({ U with vm := s.vm } : State) locs mc ms := by
    subst hA
    obtain ⟨e1, e2⟩ := hsame
    rw [State.setFrames_setFrames] at e1
    have h2 : (T.setVm s.vm).sameButNew ({ U with vm := s.vm } : State) [] (0 + 1) (0 + 6) := ⟨e1, e2⟩
    have h3 := X.same.trans h2
    rw [List.append_nil] at h3
    exact h3.mono hc hs
  refine ⟨U, ?_, .threw T.heap.size, hrun, hend, Or.inr ⟨T.heap.size, rfl, cls, ce, locs, hx U hWs.alike f1 (fun q hq => f2 q hq (fun z hz => nomatch hz)), hce, hO.vm, hcl, hWs, hall, hf⟩⟩
  refine st1 _ ?_
  show Steps p.tables e below (T1.setTop { method := m, pc := pc + 3, locals := ls, stack := .ref T.heap.size :: rest, locked := none }) _
  jvm_step X₁.here [X₁.here.top, hexec, d3', Value.category]
  exact X₁.ldcStringW hexec (own := own) (text := text) (index := is) (a := sa) hown' hstr'.1 hstr'.2
    (g := { method := m, pc := pc + 4, locals := ls, stack := .ref T.heap.size :: .ref T.heap.size :: rest, locked := none }) rfl d4' _ hsteps
end Ends
section Bodies
variable {l : Launch}
theorem vx_ofW {y : MethodName} {ws ws' : List Cond} {rm : Room} {Pc : Array Value → State → Prop} {Qc : Array Value → State → Outcome → State → Prop} {XC : String → State → State → Prop} {mc ms : Nat} {free : Addr → Prop} {cc : ByteArray} {maxL : Nat} {ret : Option FieldType}
    (hy : plainName y.cls = true) (hw : ws = Cond.code y cc maxL ret :: ws')
    (body : ∀ p e s m args below meth c s₁, BodyLoose p l y (headSpec ws rm) cc maxL ret e s m args below meth c s₁ → c.maxLocals = maxL → (∀ x ∈ c.exceptionTable.toList, False) → Pc args s →
      W p l e (headSpec ws rm).room s m args below meth c s.heap [] 0 0 (vx_MQ below Qc XC args s mc ms free) (entryFrame m args maxL)) : vx_Met l y ws rm Pc Qc XC mc ms free := by
  refine MetFree.of_bodyS (code := cc) (maxLocals := maxL) (ret := ret) hy ?_ ?_
  · intro args s m h hn
    obtain ⟨meth, c, h1, h2, h3, h4, h5, h6, -, -⟩ := Cond.code_spec hn (atoms_spec (ws := ws) h _ (by rw [hw]; exact List.mem_cons_self))
    exact ⟨meth, c, h1, h2, h3, h4, h5, h6⟩
  · intro p e s m args below meth c s₁ B hml hP _
    have hh0 : s₁.heap = s.heap := by rw [B.state]; rfl
    have ht : ∀ x ∈ c.exceptionTable.toList, False := by
      obtain ⟨meth9, c9, h1, h2, -, -, -, -, h7, -⟩ := Cond.code_spec B.named (atoms_spec (ws := ws) B.pre _ (by rw [hw]; exact List.mem_cons_self))
      cases Option.some.inj (h1.symm.trans B.method)
      cases Option.some.inj (h2.symm.trans (Stand.of_body B).code)
      intro x hx
      rw [Array.isEmpty_iff.mp h7] at hx
      cases hx
    obtain ⟨t, a1, o, b1, b2, b3⟩ := body p e s m args below meth c s₁ B hml ht hP s₁ hh0 (Stand.of_body B)
    exact ⟨t, o, a1, b1, b2, b3⟩
/-- the table of a body with handlers -/
theorem vx_table {p : Program} {x y : MethodName} {S : Spec} {cc bytes : ByteArray} {maxL maxL' : Nat} {ret ret' : Option FieldType} {e : Env} {s s₁ : State} {m : MethodId} {args : Array Value} {below : List Frame} {meth : Method} {c : Code} {hh : List (Nat × Nat × Nat × Nat)}
    (B : BodyLoose p l y S cc maxL ret e s m args below meth c s₁) (h : (Cond.codeWith y bytes maxL' ret' hh).before args s = true) : c.exceptionTable.toList = tableOf hh := by
  obtain ⟨m9, meth9, c9, hn9, h1, h2, -, -, h6, -⟩ := Cond.codeWith_spec h
  cases Option.some.inj (hn9.symm.trans B.named)
  cases Option.some.inj (h1.symm.trans B.method)
  cases Option.some.inj (h2.symm.trans (Stand.of_body B).code)
  rw [← h6, table_eq]
end Bodies
end VXA
/-! ===== END ===== -/
/-! ===== BEGIN a static call of a method with an exception table ===== -/
section VXS
variable {p : Program} {l : Launch} {e : Env} {R : Room} {s : State} {m : MethodId} {args : Array Value} {below : List Frame} {meth : Method} {c : Code} {T : State} {H : Heap} {locs : List Loc} {cells slots : Nat}
abbrev vx_CSW (R : Room) (s : State) (args : Array Value) (own : String) (index : Nat) (y : MethodName) (bytes : ByteArray) (maxL : Nat) (ret : Option FieldType) (hh : List (Nat × Nat × Nat × Nat)) (ws : List Cond) (rm : Room) (mc ms n : Nat) : Prop :=
  (rm.cells = mc ∧ rm.slots = ms ∧ rm.frames + 1 ≤ R.frames ∧ 8 + (maxL + 11) + rm.locals ≤ R.locals ∧ (∀ w ∈ ws, ∀ (a' : Array Value) (U : State), s.WarmedH U.vm → w.before a' U = true) ∧ Cond.codeWith y bytes maxL ret hh ∈ ws) ∧
  (Cond.codeWith y bytes maxL ret hh).before args s = true ∧ (Cond.initialized y.cls).before args s = true ∧ (y.cls ≠ "java/lang/invoke/MethodHandle" ∧ y.cls ≠ "java/lang/invoke/VarHandle") ∧
  (∀ sig, parseMethodDescriptor y.desc = some sig → n = sig.parameters.length) ∧ (Cond.methodLink own index y).before args s = true ∧ (Cond.static y).before args s = true
theorem vx_cwSW {own : String} {index maxL mc ms : Nat} {y : MethodName} {bytes : ByteArray} {ret : Option FieldType} {hh : List (Nat × Nat × Nat × Nat)} {Ts ws ws' : List Cond} {rm : Room} (n : Nat) (ht : ∀ w ∈ Ts, w.before args s = true) (hT : GoodIn Ts (va_wsS own index y ws)) (hw : ws = Cond.codeWith y bytes maxL ret hh :: ws') (hrc : rm.cells = mc) (hrs : rm.slots = ms)
    (hd : y.cls ≠ "java/lang/invoke/MethodHandle" ∧ y.cls ≠ "java/lang/invoke/VarHandle" ∧ (parseMethodDescriptor y.desc).map (fun d => d.parameters.length) = some n) (hR : rm.frames + 1 ≤ R.frames ∧ 8 + (maxL + 11) + rm.locals ≤ R.locals) :
    vx_CSW R s args own index y bytes maxL ret hh ws rm mc ms n := by
  have ok : ∀ w ∈ va_wsS own index y ws, w.before args s = true := fun w h => ht w (hT w h).1
  have hG : GoodIn Ts ws := fun w h => hT w (by unfold va_wsS; exact List.mem_append_right _ h)
  have hc : Cond.codeWith y bytes maxL ret hh ∈ ws := by rw [hw]; exact List.mem_cons_self
  refine ⟨⟨hrc, hrs, hR.1, hR.2, pay_in ht hG, hc⟩, ht _ (hG _ hc).1, ok _ (by simp [va_wsS]), ⟨hd.1, hd.2.1⟩, fun sig h => ?_, ok _ (by simp [va_wsS]), ok _ (by simp [va_wsS])⟩
  have h2 := hd.2.2
  rw [h] at h2
  exact (Option.some.inj h2).symm
theorem vx_callSW (X : Stand p l e R s m args below meth c T locs cells slots) (hexec : p.tables.exec = Jvm.exec) {own : String} {index : Nat} {y : MethodName} {bytes : ByteArray} {maxL : Nat} {ret : Option FieldType} {hh : List (Nat × Nat × Nat × Nat)}
    (hown : s.vm.findClass own = some m.cls) (hlink : (Cond.methodLink own index y).before args s = true) (hstat : (Cond.static y).before args s = true) (hinit : (Cond.initialized y.cls).before args s = true)
    (hcode : (Cond.codeWith y bytes maxL ret hh).before args s = true) (hy : y.cls ≠ "java/lang/invoke/MethodHandle" ∧ y.cls ≠ "java/lang/invoke/VarHandle")
    {W9 : Nat} {Pre : Pt → Array Value → Prop} {Post : Pt → Array Value → Option Value → Pt → Prop} (hK : Back l R p e below s args y 3 W9 Pre Post)
    {g : JFrame} (hg : g.method = m) (hsize : g.locals.size = c.maxLocals) {argsL rest : List Value} (hlen : ∀ sig, parseMethodDescriptor y.desc = some sig → argsL.length = sig.parameters.length)
    (hstack : g.stack = argsL.reverse ++ rest) (hW : 2 * g.monitorRoom + (rest.map fun v => v.category).sum ≤ W9) (hdg : decode c.code g.pc = .ok (.invokestatic index, 3))
    (hpre : ∀ vm₁, s.WarmedH vm₁ → Pre ⟨T.setVm vm₁, locs, cells, slots⟩ argsL.toArray) :
    ∃ (v : Option Value) (vm₁ : Vm) (B : Pt), s.WarmedH vm₁ ∧ Stand p l e R s m args below meth c B.U B.locs B.cells B.slots ∧ Post ⟨T.setVm vm₁, locs, cells, slots⟩ argsL.toArray v B ∧
      ∀ target, Steps p.tables e below (B.U.setTop { g with pc := g.pc + 3, stack := v.toList ++ rest }) target → Steps p.tables e below (T.setTop g) target := by
  obtain ⟨mk, methM, cM, hnamed, hmethM, -, -, -, -, -, -, hsigM⟩ := Cond.codeWith_spec hcode
  have hstatic : methM.isStatic = true := Cond.static_spec hnamed hmethM hstat
  obtain ⟨kP, hkP, -⟩ := className_of_methodNamed hnamed
  have hinitP : kP.init = .initialized := Cond.initialized_spec (findClass_of_methodNamed hnamed) hkP hinit
  obtain ⟨vm₁, X₁, hstep₁⟩ := X.invokestatic hexec hown hlink hnamed hmethM hstatic hkP hinitP hy (g := g) hg (argsL := argsL) (rest := rest) (hlen _ hsigM) hstack hdg
  obtain ⟨v, B, X', hpost, hsteps⟩ := hK m meth c ⟨T.setVm vm₁, locs, cells, slots⟩ { g with stack := rest } (.invokestatic index) mk argsL.toArray X₁ hg hsize hdg hW (X₁.named hnamed) (hpre vm₁ X₁.warmed)
  exact ⟨v, vm₁, B, X₁.warmed, X', hpost, fun target h => hstep₁ _ fun acts => by rw [doInvoke_state]; exact hsteps.trans h⟩
theorem vx_runSW {y : MethodName} {bytes cc : ByteArray} {maxL nL mc ms n index : Nat} {ret : Option FieldType} {hh : List (Nat × Nat × Nat × Nat)} {ws : List Cond} {rm : Room} {Pc : Array Value → State → Prop} {Qc : Array Value → State → Outcome → State → Prop} {free : Addr → Prop} {Ts : List Cond} {own : String} {As rest : List Value} {g : JFrame}
    (S : CallFix p m c cc nL s args Ts own) (hM : Met l y ws rm Pc Qc mc ms free) (cw : vx_CSW R s args own index y bytes maxL ret hh ws rm mc ms n) (hp : PreS s H Pc As)
    (hg : g.method = m) (hn : As.length = n) (hsize : g.locals.size = nL) (hstack : g.stack = As.reverse ++ rest) (hW : 2 * g.monitorRoom + (rest.map fun v => v.category).sum ≤ 8) (hdg : decode cc g.pc = .ok (.invokestatic index, 3)) (hf : cells + mc ≤ R.cells ∧ slots + ms ≤ R.slots) :
    va_Run p l e R s m args below meth c H locs cells slots mc ms g rest (Qc As.toArray) (free) := by
  obtain ⟨⟨hrc, hrs, hfr, hlo, hws, hcw⟩, hcode, hini, hy, hlen, hl, hstt⟩ := cw
  have hK : Back l R p e below s args y 3 8 (PreOf R mc ms Pc) (PostOf Qc mc ms free) := va_backW (hh := hh) (bytes := bytes) (maxL := maxL) (ret := ret) hM hp.1 hrc hrs hfr hlo hws hcw (fun a' U hW => word_at hW (Or.inl (by first | rfl | simp [Cond.onTables, Cond.keeps, Cond.steady])) hini)
  obtain ⟨hx, hb, hml, ho, -⟩ := S
  intro T hT X
  obtain ⟨v, vm₁, ⟨U', l2, c2, s2⟩, hW₁, X', ⟨g', mk, t, L, e1, e2, hq, h1, hL, h2, h3⟩, st⟩ := vx_callSW X hx (hh := hh) (bytes := bytes) (maxL := maxL) (ret := ret) ho hl hstt hini hcode hy hK hg (hsize.trans hml.symm) (argsL := As) (rest := rest) (fun sig h => hn.trans (hlen sig h)) hstack hW (by rw [hb]; exact hdg)
    (fun vm₁ hW₁ => ⟨hf.1, hf.2, hp.2 (T.setVm vm₁) hT hW₁⟩)
  dsimp only [Pt.U, Pt.locs, Pt.cells, Pt.slots] at X' e1 e2 h1 h2 h3 st
  subst h1; subst h2; subst h3
  exact ⟨v, (T.setVm vm₁).calling g' mk As.toArray, t, U', L, hT, X', hL, e1, e2, hq, st⟩
/-- not caught here, past rows that name other classes: it goes on to the caller -/
theorem vx_outP {p : Program} {l : Launch} {e : Env} {R : Room} {s : State} {m : MethodId} {args : Array Value} {below : List Frame} {meth : Method} {c : Code} {H : Heap} {locs : List Loc} {cells slots : Nat} {free : Addr → Prop} {ls : Array Slot} {rest : List Value} {Qc : Array Value → State → Outcome → State → Prop} {XC : String → State → State → Prop}
    {pc : Nat} {own E : String} {ce : Cell} {q : Addr} {mc ms : Nat} (hown : s.vm.findClass own = some m.cls) (hlocks : meth.locks = false)
    (hpass : ∀ z ∈ c.exceptionTable.toList, covers z pc = false ∨ (z.catchType ≠ 0 ∧ ∃ nm : String, (Cond.classLink own z.catchType nm).before args s = true ∧ va_Nc E nm s)) (hcell : H[q]? = some ce) (hv : ce.vm = .none) (hcl : s.vm.findClass E = some ce.cls)
    (hx : ∀ t : State, t.heap = H → s.vm.Alike t.vm → XC E s t) (hf : ∀ z ∈ locs, free z.base) (hc : cells ≤ mc) (hs : slots ≤ ms) :
    vx_W p l e R s m args below meth c H locs cells slots (vx_MQ below Qc XC args s mc ms free) (F0 m pc ls rest) q := by
  intro T hT X
  have hpl : e.platform.magicAccessors = ({} : Platform).magicAccessors := by rw [X.admits.platform]
  obtain ⟨vm', hW', X', st⟩ := X.outThrough hlocks q (g := F0 m pc ls rest) rfl rfl rfl (cell := ce) (by rw [hT]; exact hcell) (by rw [hv]; rfl)
    (by obtain ⟨k9, h9, -⟩ := Vm.findClass_spec hcl; exact ⟨k9, h9⟩) (fun z hz => by
      rcases hpass z hz with h | ⟨hz0, nm, hl1, hn1⟩
      · exact Or.inl h
      · obtain ⟨c6, hc6, hcl6⟩ := Cond.classLink_spec hown hl1 e.platform hpl
        obtain ⟨a8, b8, h1, h2, h3⟩ := hn1
        cases Option.some.inj (h1.symm.trans hcl)
        cases Option.some.inj (h2.symm.trans hc6)
        exact Or.inr ⟨hz0, _, hcl6, h3⟩)
  obtain ⟨g₀, hfr⟩ := X'.frames_eq
  have hcell9 : ((T.setVm vm').setFrames (.throwing q :: below)).heap[q]? = some ce := by
    show T.heap[q]? = some ce
    rw [hT]; exact hcell
  have hend : Ended ((T.setVm vm').setFrames (.throwing q :: below)) below (.threw q) := State.frames_setFrames _ (State.cur_lt_of_frames hfr)
  refine ⟨(T.setVm vm').setFrames (.throwing q :: below), ?_, .threw q, X'.here.running, hend, Or.inr ⟨q, rfl, E, ce, locs, hx _ hT (X'.ends _).1.alike, hcell9, hv, hcl, (X'.ends _).1, (X'.ends _).2.mono hc hs, hf⟩⟩
  rw [X.pushThrowing_eq]
  exact st
/-- a thing of a world lies in the heap -/
theorem vx_lt {D : va_G} {cl : List vw_C} {ws : va_W} {H1 : Heap} (h : va_P D cl ws H1) {k : Nat} {q : Nat × va_E} (hk : ws[k]? = some q) : q.1 < H1.size := (h k q hk).lt
end VXS
/-! ===== END ===== -/
/-! ===== BEGIN methods with a table of their own: called by a name, returning or throwing ===== -/
section VXH
/-! vx_backW, vx_callVX, vx_callSX, vx_callVW, vx_runVW, vx_runVX, vx_runSX, vx_ofWH follow the same proofs as their sisters above (Free/Laws.lean, Shelf42/LK1.lean); vx_outP calls Shelf42/NT130.lean (outThrough). -/
section
variable {l : Launch} {R : Room} {p : Program} {e : Env} {below : List Frame} {s : State} {sargs : Array Value} {y : MethodName} {len W9 : Nat}
theorem vx_backW {ws : List Cond} {rm : Room} {Pc : Array Value → State → Prop} {Qc : Array Value → State → Outcome → State → Prop} {XC : String → State → State → Prop} {mc ms : Nat} {free : Addr → Prop} {bytes : ByteArray} {maxL : Nat} {ret : Option FieldType} {hh : List (Nat × Nat × Nat × Nat)}
    (hM : vx_Met l y ws rm Pc Qc XC mc ms free) (hblind : FrameBlind Pc) (hrc : rm.cells = mc) (hrs : rm.slots = ms)
    (hframes : rm.frames + 1 ≤ R.frames) (hlocals : W9 + (maxL + 11) + rm.locals ≤ R.locals)
    (hws : ∀ w ∈ ws, ∀ a' U, s.WarmedH U.vm → w.before a' U = true) (hcode : Cond.codeWith y bytes maxL ret hh ∈ ws) (hinit : ∀ a' U, s.WarmedH U.vm → (Cond.initialized y.cls).before a' U = true) :
    vx_Back l R p e below s sargs y len W9 (PreOf R mc ms Pc) (PostOf Qc mc ms free) (vx_Post XC mc ms free) := by
  intro m meth c A g ig mk a X hg hsize hdg hW hn hp
  have h1 : (headSpec ws rm).pre.before a A.U = true := atoms_intro fun w hw => hws w hw _ _ X.warmed
  have h2 : (Cond.codeWith y bytes maxL ret hh).before a A.U = true := hws _ hcode _ _ X.warmed
  have h3 : (Cond.initialized y.cls).before a A.U = true := hinit _ _ X.warmed
  have h4 : A.cells + (headSpec ws rm).room.cells ≤ R.cells := by rw [show (headSpec ws rm).room.cells = mc from hrc]; exact hp.1
  have h5 : A.slots + (headSpec ws rm).room.slots ≤ R.slots := by rw [show (headSpec ws rm).room.slots = ms from hrs]; exact hp.2.1
  have hPc : Pc a (A.U.calling g mk a) := hblind _ _ _ _ hp.2.2
  obtain ⟨U, Ls, c0, s0⟩ := A
  dsimp only [Pt.U, Pt.locs, Pt.cells, Pt.slots] at h1 h2 h3 h4 h5 X hn hPc ⊢
  obtain ⟨m9, methY, cY, hn9, hmY, hcY, -, hlY, -⟩ := Cond.codeWith_spec h2
  cases Option.some.inj (hn9.symm.trans hn)
  obtain ⟨kY, hkY, -⟩ := className_of_methodNamed hn
  have hinitY : kY.init = .initialized := Cond.initialized_spec (findClass_of_methodNamed hn) hkY h3
  have h : At U g.method c below := by rw [hg]; exact X.here
  have hlocals9 : W9 + (maxL + 11) + (headSpec ws rm).room.locals ≤ R.locals := hlocals
  have happ : (headSpec ws rm).appliesLoose y e.platform (U.calling g mk a) = true :=
    Spec.appliesLoose_calling (g := g) h hdg hn hkY hinitY
      (X.room_calling (g := g) (R' := (headSpec ws rm).room) hsize hmY hcY hframes (by rw [hlY]; omega) h4 h5) h1
  obtain ⟨mid, hmid⟩ := h.above
  have hfr : (U.setTop g).frames = (.java g :: mid) ++ below := by rw [State.frames_setTop' g h.top, hmid]; rfl
  obtain ⟨o, s₂, hsteps, -, hend, hq⟩ := Steps.callFree hM p X.admits X.cas X.clock (acts := []) hfr happ hPc trivial
  have hq' : vx_Q Qc XC mc ms free a (U.calling g mk a) o s₂ := hq
  rw [State.frames_setTop' g h.top] at hend
  obtain ⟨g₀, hg0⟩ := Option.isSome_iff_exists.mp h.top
  obtain ⟨r, hr⟩ := State.topJava?_eq_some.mp hg0
  have hr' : (({ U with heap := s₂.heap, slotsUsed := s₂.slotsUsed } : State).setVm s₂.vm).frames = .java g₀ :: r := hr
  rcases hq' with ⟨hqc, L, hfe, hL⟩ | ⟨q, rfl, E, ce, L, hx, hce, hcv, hcl, hW₂, hsm, hL⟩
  · obtain ⟨⟨v, rfl⟩, hW₂, e2, q2, q3, q4, q5, q6⟩ := id hfe
    have e3 : s₂ = ({ (U.calling g mk a).setFrames s₂.frames with heap := s₂.heap, slotsUsed := s₂.slotsUsed } : State).setVm s₂.vm := by
      have : s₂ = ({ s₂ with vm := (U.calling g mk a).vm } : State).setVm s₂.vm := rfl
      rw [e2] at this
      exact this
    obtain ⟨c₂, i₂, len₂, hc₂, hd₂, hf₂⟩ := hend
    have hW' : U.WarmedH s₂.vm := hW₂
    have hcc : c₂ = c := by
      have h1 : s₂.code? g.method = U.code? g.method := by
        rw [State.code?_eq, State.code?_eq, hW'.alike.method?]
      exact Option.some.inj (hc₂.symm.trans (h1.trans h.code))
    subst hcc
    have hlen : len₂ = len := by rw [hdg] at hd₂; cases hd₂; rfl
    subst hlen
    have hs₂ : s₂ = (({ U with heap := s₂.heap, slotsUsed := s₂.slotsUsed } : State).setVm s₂.vm).setTop { g with pc := g.pc + len₂, stack := v.toList ++ g.stack } := by
      refine e3.trans ?_
      rw [hf₂, State.calling_eq h.top, State.setFrames_setFrames, State.setTop_of_frames _ hr', hr]
      rfl
    have hsame : U.sameButNew ({ U with heap := s₂.heap, slotsUsed := s₂.slotsUsed } : State) L mc ms := by
      refine ⟨?_, q2, q3, q4, q5, q6⟩
      obtain ⟨t, ht, -⟩ := State.frames_cons hr
      show ({ U with heap := s₂.heap, slotsUsed := s₂.slotsUsed } : State) = { U.setFrames U.frames with heap := s₂.heap, slotsUsed := s₂.slotsUsed }
      rw [State.setFrames_self ht]
    subst hg
    refine Or.inl ⟨v, ⟨(({ U with heap := s₂.heap, slotsUsed := s₂.slotsUsed } : State).setVm s₂.vm), Ls ++ L, c0 + mc, s0 + ms⟩,
      ⟨X.admits, X.cas, X.clock, X.frames, X.room, X.hears, X.method, X.code, (X.here.setHeapUsed s₂.heap s₂.slotsUsed).setVm hW'.alike, X.tail, State.WarmedH.trans X.warmed hW', X.limits, X.bytes, X.same.trans (hsame.setVm s.vm)⟩,
      ⟨g, mk, s₂, L, rfl, rfl, hqc, rfl, hL, rfl, rfl⟩, ?_⟩
    show Steps p.tables e below _ ((({ U with heap := s₂.heap, slotsUsed := s₂.slotsUsed } : State).setVm s₂.vm).setTop { g with pc := g.pc + len₂, stack := v.toList ++ g.stack })
    rw [← hs₂]
    exact hsteps
  · obtain ⟨e2, q2, q3, q4, q5, q6⟩ := id hsm
    have e3 : s₂ = ({ (U.calling g mk a).setFrames s₂.frames with heap := s₂.heap, slotsUsed := s₂.slotsUsed } : State).setVm s₂.vm := by
      have : s₂ = ({ s₂ with vm := (U.calling g mk a).vm } : State).setVm s₂.vm := rfl
      rw [e2] at this
      exact this
    have hf₂ : s₂.frames = .throwing q :: .java g :: U.frames.tail := hend
    have hW' : U.WarmedH s₂.vm := hW₂
    have hs₂ : s₂ = ((({ U with heap := s₂.heap, slotsUsed := s₂.slotsUsed } : State).setVm s₂.vm).setTop g).pushFrame (.throwing q) := by
      refine e3.trans ?_
      rw [hf₂, State.calling_eq h.top, State.setFrames_setFrames, State.pushFrame, State.frames_setTop _ hr', State.setTop_of_frames _ hr', State.setFrames_setFrames, hr]
      rfl
    have hsame : U.sameButNew ({ U with heap := s₂.heap, slotsUsed := s₂.slotsUsed } : State) L mc ms := by
      refine ⟨?_, q2, q3, q4, q5, q6⟩
      obtain ⟨t, ht, -⟩ := State.frames_cons hr
      show ({ U with heap := s₂.heap, slotsUsed := s₂.slotsUsed } : State) = { U.setFrames U.frames with heap := s₂.heap, slotsUsed := s₂.slotsUsed }
      rw [State.setFrames_self ht]
    subst hg
    refine Or.inr ⟨q, ⟨(({ U with heap := s₂.heap, slotsUsed := s₂.slotsUsed } : State).setVm s₂.vm), Ls ++ L, c0 + mc, s0 + ms⟩,
      ⟨X.admits, X.cas, X.clock, X.frames, X.room, X.hears, X.method, X.code, (X.here.setHeapUsed s₂.heap s₂.slotsUsed).setVm hW'.alike, X.tail, State.WarmedH.trans X.warmed hW', X.limits, X.bytes, X.same.trans (hsame.setVm s.vm)⟩,
      ⟨g, mk, s₂, L, E, ce, rfl, rfl, hx, hce, hcv, hcl, rfl, hL, rfl, rfl⟩, ?_⟩
    show Steps p.tables e below _ (((({ U with heap := s₂.heap, slotsUsed := s₂.slotsUsed } : State).setVm s₂.vm).setTop g).pushFrame (.throwing q))
    rw [← hs₂]
    exact hsteps
end
variable {p : Program} {l : Launch} {e : Env} {R : Room} {s : State} {m : MethodId} {args : Array Value} {below : List Frame} {meth : Method} {c : Code} {T : State} {H : Heap} {locs : List Loc} {cells slots : Nat}
theorem vx_callVX (X : Stand p l e R s m args below meth c T locs cells slots) (hexec : p.tables.exec = Jvm.exec) {own C : String} {index : Nat} {y : MethodName} {bytes : ByteArray} {maxL : Nat} {ret : Option FieldType} {hh : List (Nat × Nat × Nat × Nat)}
    (hown : s.vm.findClass own = some m.cls) (hlink : (Cond.methodLink own index y).before args s = true) (hinst : (Cond.instanceMethod y).before args s = true) (hsel : (Cond.selects C y y).before args s = true)
    (hcode : (Cond.codeWith y bytes maxL ret hh).before args s = true) (hy : y.cls ≠ "java/lang/invoke/MethodHandle" ∧ y.cls ≠ "java/lang/invoke/VarHandle")
    {W9 : Nat} {Pre : Pt → Array Value → Prop} {Post : Pt → Array Value → Option Value → Pt → Prop} {PostX : Pt → Array Value → Addr → Pt → Prop} (hK : vx_Back l R p e below s args y 3 W9 Pre Post PostX)
    {b : Addr} {cellB : Cell} (hcell : T.heap[b]? = some cellB) (hobj : cellB.vm.isStatics = false) (hcls : s.vm.findClass C = some cellB.cls)
    {g : JFrame} (hg : g.method = m) (hsize : g.locals.size = c.maxLocals) {argsL rest : List Value} (hlen : ∀ sig, parseMethodDescriptor y.desc = some sig → argsL.length = sig.parameters.length)
    (hstack : g.stack = argsL.reverse ++ .ref b :: rest) (hW : 2 * g.monitorRoom + (rest.map fun v => v.category).sum ≤ W9) (hdg : decode c.code g.pc = .ok (.invokevirtual index, 3))
    (hpre : ∀ vm₁, s.WarmedH vm₁ → Pre ⟨T.setVm vm₁, locs, cells, slots⟩ (Value.ref b :: argsL).toArray) :
    (∃ (v : Option Value) (vm₁ : Vm) (B : Pt), s.WarmedH vm₁ ∧ Stand p l e R s m args below meth c B.U B.locs B.cells B.slots ∧ Post ⟨T.setVm vm₁, locs, cells, slots⟩ (Value.ref b :: argsL).toArray v B ∧
      ∀ target, Steps p.tables e below (B.U.setTop { g with pc := g.pc + 3, stack := v.toList ++ rest }) target → Steps p.tables e below (T.setTop g) target) ∨
    (∃ (q : Addr) (vm₁ : Vm) (B : Pt), s.WarmedH vm₁ ∧ Stand p l e R s m args below meth c B.U B.locs B.cells B.slots ∧ PostX ⟨T.setVm vm₁, locs, cells, slots⟩ (Value.ref b :: argsL).toArray q B ∧
      Steps p.tables e below (T.setTop g) ((B.U.setTop { g with stack := rest }).pushFrame (.throwing q))) := by
  obtain ⟨mk, methM, hnamed, hmethM, hstM, habM⟩ := Cond.instanceMethod_spec hinst
  obtain ⟨m8, methM', cM, hn8, hmethM', -, -, -, -, -, -, hsigM⟩ := Cond.codeWith_spec hcode
  cases Option.some.inj (hn8.symm.trans hnamed)
  cases hmethM.symm.trans hmethM'
  obtain ⟨c2, r2, m2, q1, q2, q3, q4, kP, hkP, hkPi⟩ := Cond.selects_spec hsel
  cases hcls.symm.trans q1
  cases (State.methodFound?_of_named hnamed hy).symm.trans q2
  cases hnamed.symm.trans q3
  have hselP : selectMethod e.platform s.vm cellB.cls mk = .method mk := by rw [Launch.admits_selectMethod X.admits]; exact q4
  obtain ⟨vm₁, X₁, hstep₁⟩ := X.invokevirtual hexec hown hlink hnamed hmethM hstM hkP hkPi hy (a := b) (cell := cellB) hcell
    (fun z h => by rw [h] at hobj; cases hobj) hselP hmethM habM hkP hkPi (g := g) hg (argsL := argsL) (rest := rest) (hlen _ hsigM) hstack hdg
  rcases hK m meth c ⟨T.setVm vm₁, locs, cells, slots⟩ { g with stack := rest } (.invokevirtual index) mk (Value.ref b :: argsL).toArray X₁ hg hsize hdg hW (X₁.named hnamed) (hpre vm₁ X₁.warmed) with ⟨v, B, X', hpost, hsteps⟩ | ⟨q, B, X', hpost, hsteps⟩
  · exact Or.inl ⟨v, vm₁, B, X₁.warmed, X', hpost, fun target h => hstep₁ _ fun acts => by rw [doInvoke_state]; exact hsteps.trans h⟩
  · exact Or.inr ⟨q, vm₁, B, X₁.warmed, X', hpost, hstep₁ _ fun acts => by rw [doInvoke_state]; exact hsteps⟩
theorem vx_callSX (X : Stand p l e R s m args below meth c T locs cells slots) (hexec : p.tables.exec = Jvm.exec) {own : String} {index : Nat} {y : MethodName} {bytes : ByteArray} {maxL : Nat} {ret : Option FieldType} {hh : List (Nat × Nat × Nat × Nat)}
    (hown : s.vm.findClass own = some m.cls) (hlink : (Cond.methodLink own index y).before args s = true) (hstat : (Cond.static y).before args s = true) (hinit : (Cond.initialized y.cls).before args s = true)
    (hcode : (Cond.codeWith y bytes maxL ret hh).before args s = true) (hy : y.cls ≠ "java/lang/invoke/MethodHandle" ∧ y.cls ≠ "java/lang/invoke/VarHandle")
    {W9 : Nat} {Pre : Pt → Array Value → Prop} {Post : Pt → Array Value → Option Value → Pt → Prop} {PostX : Pt → Array Value → Addr → Pt → Prop} (hK : vx_Back l R p e below s args y 3 W9 Pre Post PostX)
    {g : JFrame} (hg : g.method = m) (hsize : g.locals.size = c.maxLocals) {argsL rest : List Value} (hlen : ∀ sig, parseMethodDescriptor y.desc = some sig → argsL.length = sig.parameters.length)
    (hstack : g.stack = argsL.reverse ++ rest) (hW : 2 * g.monitorRoom + (rest.map fun v => v.category).sum ≤ W9) (hdg : decode c.code g.pc = .ok (.invokestatic index, 3))
    (hpre : ∀ vm₁, s.WarmedH vm₁ → Pre ⟨T.setVm vm₁, locs, cells, slots⟩ argsL.toArray) :
    (∃ (v : Option Value) (vm₁ : Vm) (B : Pt), s.WarmedH vm₁ ∧ Stand p l e R s m args below meth c B.U B.locs B.cells B.slots ∧ Post ⟨T.setVm vm₁, locs, cells, slots⟩ argsL.toArray v B ∧
      ∀ target, Steps p.tables e below (B.U.setTop { g with pc := g.pc + 3, stack := v.toList ++ rest }) target → Steps p.tables e below (T.setTop g) target) ∨
    (∃ (q : Addr) (vm₁ : Vm) (B : Pt), s.WarmedH vm₁ ∧ Stand p l e R s m args below meth c B.U B.locs B.cells B.slots ∧ PostX ⟨T.setVm vm₁, locs, cells, slots⟩ argsL.toArray q B ∧
      Steps p.tables e below (T.setTop g) ((B.U.setTop { g with stack := rest }).pushFrame (.throwing q))) := by
  obtain ⟨mk, methM, cM, hnamed, hmethM, -, -, -, -, -, -, hsigM⟩ := Cond.codeWith_spec hcode
  have hstatic : methM.isStatic = true := Cond.static_spec hnamed hmethM hstat
  obtain ⟨kP, hkP, -⟩ := className_of_methodNamed hnamed
  have hinitP : kP.init = .initialized := Cond.initialized_spec (findClass_of_methodNamed hnamed) hkP hinit
  obtain ⟨vm₁, X₁, hstep₁⟩ := X.invokestatic hexec hown hlink hnamed hmethM hstatic hkP hinitP hy (g := g) hg (argsL := argsL) (rest := rest) (hlen _ hsigM) hstack hdg
  rcases hK m meth c ⟨T.setVm vm₁, locs, cells, slots⟩ { g with stack := rest } (.invokestatic index) mk argsL.toArray X₁ hg hsize hdg hW (X₁.named hnamed) (hpre vm₁ X₁.warmed) with ⟨v, B, X', hpost, hsteps⟩ | ⟨q, B, X', hpost, hsteps⟩
  · exact Or.inl ⟨v, vm₁, B, X₁.warmed, X', hpost, fun target h => hstep₁ _ fun acts => by rw [doInvoke_state]; exact hsteps.trans h⟩
  · exact Or.inr ⟨q, vm₁, B, X₁.warmed, X', hpost, hstep₁ _ fun acts => by rw [doInvoke_state]; exact hsteps⟩
theorem vx_callVW (X : Stand p l e R s m args below meth c T locs cells slots) (hexec : p.tables.exec = Jvm.exec) {own C : String} {index : Nat} {y : MethodName} {bytes : ByteArray} {maxL : Nat} {ret : Option FieldType} {hh : List (Nat × Nat × Nat × Nat)}
    (hown : s.vm.findClass own = some m.cls) (hlink : (Cond.methodLink own index y).before args s = true) (hinst : (Cond.instanceMethod y).before args s = true) (hsel : (Cond.selects C y y).before args s = true)
    (hcode : (Cond.codeWith y bytes maxL ret hh).before args s = true) (hy : y.cls ≠ "java/lang/invoke/MethodHandle" ∧ y.cls ≠ "java/lang/invoke/VarHandle")
    {W9 : Nat} {Pre : Pt → Array Value → Prop} {Post : Pt → Array Value → Option Value → Pt → Prop} (hK : Back l R p e below s args y 3 W9 Pre Post)
    {b : Addr} {cellB : Cell} (hcell : T.heap[b]? = some cellB) (hobj : cellB.vm.isStatics = false) (hcls : s.vm.findClass C = some cellB.cls)
    {g : JFrame} (hg : g.method = m) (hsize : g.locals.size = c.maxLocals) {argsL rest : List Value} (hlen : ∀ sig, parseMethodDescriptor y.desc = some sig → argsL.length = sig.parameters.length)
    (hstack : g.stack = argsL.reverse ++ .ref b :: rest) (hW : 2 * g.monitorRoom + (rest.map fun v => v.category).sum ≤ W9) (hdg : decode c.code g.pc = .ok (.invokevirtual index, 3))
    (hpre : ∀ vm₁, s.WarmedH vm₁ → Pre ⟨T.setVm vm₁, locs, cells, slots⟩ (Value.ref b :: argsL).toArray) :
    ∃ (v : Option Value) (vm₁ : Vm) (B : Pt), s.WarmedH vm₁ ∧ Stand p l e R s m args below meth c B.U B.locs B.cells B.slots ∧ Post ⟨T.setVm vm₁, locs, cells, slots⟩ (Value.ref b :: argsL).toArray v B ∧
      ∀ target, Steps p.tables e below (B.U.setTop { g with pc := g.pc + 3, stack := v.toList ++ rest }) target → Steps p.tables e below (T.setTop g) target := by
  obtain ⟨mk, methM, hnamed, hmethM, hstM, habM⟩ := Cond.instanceMethod_spec hinst
  obtain ⟨m8, methM', cM, hn8, hmethM', -, -, -, -, -, -, hsigM⟩ := Cond.codeWith_spec hcode
  cases Option.some.inj (hn8.symm.trans hnamed)
  cases hmethM.symm.trans hmethM'
  obtain ⟨c2, r2, m2, q1, q2, q3, q4, kP, hkP, hkPi⟩ := Cond.selects_spec hsel
  cases hcls.symm.trans q1
  cases (State.methodFound?_of_named hnamed hy).symm.trans q2
  cases hnamed.symm.trans q3
  have hselP : selectMethod e.platform s.vm cellB.cls mk = .method mk := by rw [Launch.admits_selectMethod X.admits]; exact q4
  obtain ⟨vm₁, X₁, hstep₁⟩ := X.invokevirtual hexec hown hlink hnamed hmethM hstM hkP hkPi hy (a := b) (cell := cellB) hcell
    (fun z h => by rw [h] at hobj; cases hobj) hselP hmethM habM hkP hkPi (g := g) hg (argsL := argsL) (rest := rest) (hlen _ hsigM) hstack hdg
  obtain ⟨v, B, X', hpost, hsteps⟩ := hK m meth c ⟨T.setVm vm₁, locs, cells, slots⟩ { g with stack := rest } (.invokevirtual index) mk (Value.ref b :: argsL).toArray X₁ hg hsize hdg hW (X₁.named hnamed) (hpre vm₁ X₁.warmed)
  exact ⟨v, vm₁, B, X₁.warmed, X', hpost, fun target h => hstep₁ _ fun acts => by rw [doInvoke_state]; exact hsteps.trans h⟩
abbrev vx_CVW (R : Room) (s : State) (args : Array Value) (own C : String) (index : Nat) (y : MethodName) (bytes : ByteArray) (maxL : Nat) (ret : Option FieldType) (hh : List (Nat × Nat × Nat × Nat)) (ws : List Cond) (rm : Room) (mc ms n : Nat) : Prop :=
  (rm.cells = mc ∧ rm.slots = ms ∧ rm.frames + 1 ≤ R.frames ∧ 8 + (maxL + 11) + rm.locals ≤ R.locals ∧ (∀ w ∈ ws, ∀ (a' : Array Value) (U : State), s.WarmedH U.vm → w.before a' U = true) ∧ Cond.codeWith y bytes maxL ret hh ∈ ws) ∧
  (Cond.codeWith y bytes maxL ret hh).before args s = true ∧ (Cond.initialized y.cls).before args s = true ∧ (y.cls ≠ "java/lang/invoke/MethodHandle" ∧ y.cls ≠ "java/lang/invoke/VarHandle") ∧
  (∀ sig, parseMethodDescriptor y.desc = some sig → n = sig.parameters.length) ∧ (Cond.methodLink own index y).before args s = true ∧ (Cond.instanceMethod y).before args s = true ∧ (Cond.selects C y y).before args s = true
theorem vx_cwVW {own C : String} {index maxL mc ms : Nat} {y : MethodName} {bytes : ByteArray} {ret : Option FieldType} {hh : List (Nat × Nat × Nat × Nat)} {Ts ws ws' : List Cond} {rm : Room} (n : Nat) (ht : ∀ w ∈ Ts, w.before args s = true) (hT : GoodIn Ts (wsV own index C y ws)) (hw : ws = Cond.codeWith y bytes maxL ret hh :: ws') (hrc : rm.cells = mc) (hrs : rm.slots = ms)
    (hd : y.cls = C ∧ y.cls ≠ "java/lang/invoke/MethodHandle" ∧ y.cls ≠ "java/lang/invoke/VarHandle" ∧ (parseMethodDescriptor y.desc).map (fun d => d.parameters.length) = some n) (hR : rm.frames + 1 ≤ R.frames ∧ 8 + (maxL + 11) + rm.locals ≤ R.locals) :
    vx_CVW R s args own C index y bytes maxL ret hh ws rm mc ms n := by
  obtain ⟨hC, hd⟩ := hd
  subst hC
  have ok : ∀ w ∈ wsV own index y.cls y ws, w.before args s = true := fun w h => ht w (hT w h).1
  have hG : GoodIn Ts ws := fun w h => hT w (by unfold wsV; exact List.mem_append_right _ h)
  have hc : Cond.codeWith y bytes maxL ret hh ∈ ws := by rw [hw]; exact List.mem_cons_self
  refine ⟨⟨hrc, hrs, hR.1, hR.2, pay_in ht hG, hc⟩, ht _ (hG _ hc).1, ok _ (by simp [wsV]), ⟨hd.1, hd.2.1⟩, fun sig h => ?_, ok _ (by simp [wsV]), ok _ (by simp [wsV]), ok _ (by simp [wsV])⟩
  have h2 := hd.2.2
  rw [h] at h2
  exact (Option.some.inj h2).symm
theorem vx_runVW {y : MethodName} {bytes cc : ByteArray} {maxL nL mc ms n index : Nat} {ret : Option FieldType} {hh : List (Nat × Nat × Nat × Nat)} {ws : List Cond} {rm : Room} {Pc : Array Value → State → Prop} {Qc : Array Value → State → Outcome → State → Prop} {free : Addr → Prop} {Ts : List Cond} {own C : String} {b : Addr} {As rest : List Value} {g : JFrame}
    (S : CallFix p m c cc nL s args Ts own) (hM : Met l y ws rm Pc Qc mc ms free) (cw : vx_CVW R s args own C index y bytes maxL ret hh ws rm mc ms n) (hp : PreV s H C b Pc As)
    (hg : g.method = m) (hn : As.length = n) (hsize : g.locals.size = nL) (hstack : g.stack = As.reverse ++ .ref b :: rest) (hW : 2 * g.monitorRoom + (rest.map fun v => v.category).sum ≤ 8) (hdg : decode cc g.pc = .ok (.invokevirtual index, 3)) (hf : cells + mc ≤ R.cells ∧ slots + ms ≤ R.slots) :
    va_Run p l e R s m args below meth c H locs cells slots mc ms g rest (Qc (Value.ref b :: As).toArray) free := by
  obtain ⟨⟨hrc, hrs, hfr, hlo, hws, hcw⟩, hcode, hini, hy, hlen, hl, hin, hse⟩ := cw
  have hK : Back l R p e below s args y 3 8 (PreOf R mc ms Pc) (PostOf Qc mc ms free) := va_backW (hh := hh) (bytes := bytes) (maxL := maxL) (ret := ret) hM hp.1 hrc hrs hfr hlo hws hcw (fun a' U hW => word_at hW (Or.inl (by first | rfl | simp [Cond.onTables, Cond.keeps, Cond.steady])) hini)
  obtain ⟨hx, hb, hml, ho, -⟩ := S
  obtain ⟨-, ⟨cellB, hcB, hoB, hclB⟩, hPc⟩ := hp
  intro T hT X
  obtain ⟨v, vm₁, ⟨U', l2, c2, s2⟩, hW₁, X', ⟨g', mk, t, L, e1, e2, hq, h1, hL, h2, h3⟩, st⟩ := vx_callVW X hx (C := C) (hh := hh) (bytes := bytes) (maxL := maxL) (ret := ret) ho hl hin hse hcode hy hK (by rw [hT]; exact hcB) hoB hclB hg (hsize.trans hml.symm) (argsL := As) (rest := rest) (fun sig h => hn.trans (hlen sig h)) hstack hW (by rw [hb]; exact hdg)
    (fun vm₁ hW₁ => ⟨hf.1, hf.2, hPc (T.setVm vm₁) hT hW₁⟩)
  dsimp only [Pt.U, Pt.locs, Pt.cells, Pt.slots] at X' e1 e2 h1 h2 h3 st
  subst h1; subst h2; subst h3
  exact ⟨v, (T.setVm vm₁).calling g' mk (Value.ref b :: As).toArray, t, U', L, hT, X', hL, e1, e2, hq, st⟩
section
variable {y : MethodName} {bytes cc : ByteArray} {maxL nL mc ms n index : Nat} {ret : Option FieldType} {ws : List Cond} {rm : Room} {Pc : Array Value → State → Prop} {Qc : Array Value → State → Outcome → State → Prop} {XC : String → State → State → Prop} {free : Addr → Prop} {Ts : List Cond} {own C : String} {b : Addr} {As rest : List Value} {g : JFrame}
theorem vx_runVX {hh : List (Nat × Nat × Nat × Nat)} (S : CallFix p m c cc nL s args Ts own) (hM : vx_Met l y ws rm Pc Qc XC mc ms free) (cw : vx_CVW R s args own C index y bytes maxL ret hh ws rm mc ms n) (hp : PreV s H C b Pc As)
    (hg : g.method = m) (hn : As.length = n) (hsize : g.locals.size = nL) (hstack : g.stack = As.reverse ++ .ref b :: rest) (hW : 2 * g.monitorRoom + (rest.map fun v => v.category).sum ≤ 8) (hdg : decode cc g.pc = .ok (.invokevirtual index, 3)) (hf : cells + mc ≤ R.cells ∧ slots + ms ≤ R.slots) :
    vx_Run p l e R s m args below meth c H locs cells slots mc ms g rest (Qc (Value.ref b :: As).toArray) XC free := by
  obtain ⟨⟨hrc, hrs, hfr, hlo, hws, hcw⟩, hcode, hini, hy, hlen, hl, hin, hse⟩ := cw
  have hK : vx_Back l R p e below s args y 3 8 (PreOf R mc ms Pc) (PostOf Qc mc ms free) (vx_Post XC mc ms free) := vx_backW (hh := hh) (bytes := bytes) (maxL := maxL) (ret := ret) hM hp.1 hrc hrs hfr hlo hws hcw (fun a' U hW => word_at hW (Or.inl (by first | rfl | simp [Cond.onTables, Cond.keeps, Cond.steady])) hini)
  obtain ⟨hx, hb, hml, ho, -⟩ := S
  obtain ⟨-, ⟨cellB, hcB, hoB, hclB⟩, hPc⟩ := hp
  intro T hT X
  rcases vx_callVX X hx (C := C) (hh := hh) (bytes := bytes) (maxL := maxL) (ret := ret) ho hl hin hse hcode hy hK (by rw [hT]; exact hcB) hoB hclB hg (hsize.trans hml.symm) (argsL := As) (rest := rest) (fun sig h => hn.trans (hlen sig h)) hstack hW (by rw [hb]; exact hdg)
    (fun vm₁ hW₁ => ⟨hf.1, hf.2, hPc (T.setVm vm₁) hT hW₁⟩) with ⟨v, vm₁, ⟨U', l2, c2, s2⟩, hW₁, X', ⟨g', mk, t, L, e1, e2, hq, h1, hL, h2, h3⟩, st⟩ | ⟨q, vm₁, ⟨U', l2, c2, s2⟩, hW₁, X', ⟨g', mk, t, L, E, ce, e1, e2, hq, hce, hcv, hcl, h1, hL, h2, h3⟩, st⟩
  · dsimp only [Pt.U, Pt.locs, Pt.cells, Pt.slots] at X' e1 e2 h1 h2 h3 st
    subst h1; subst h2; subst h3
    exact Or.inl ⟨v, (T.setVm vm₁).calling g' mk (Value.ref b :: As).toArray, t, U', L, hT, X', hL, e1, e2, hq, st⟩
  · dsimp only [Pt.U, Pt.locs, Pt.cells, Pt.slots] at X' e1 e2 h1 h2 h3 st hcl
    subst h1; subst h2; subst h3
    exact Or.inr ⟨q, (T.setVm vm₁).calling g' mk (Value.ref b :: As).toArray, t, U', L, E, ce, hT, X', hL, e1, e2, hq, hce, hcv, vx_cls hW₁ hcl, st⟩
theorem vx_runSX {hh : List (Nat × Nat × Nat × Nat)} (S : CallFix p m c cc nL s args Ts own) (hM : vx_Met l y ws rm Pc Qc XC mc ms free) (cw : vx_CSW R s args own index y bytes maxL ret hh ws rm mc ms n) (hp : PreS s H Pc As)
    (hg : g.method = m) (hn : As.length = n) (hsize : g.locals.size = nL) (hstack : g.stack = As.reverse ++ rest) (hW : 2 * g.monitorRoom + (rest.map fun v => v.category).sum ≤ 8) (hdg : decode cc g.pc = .ok (.invokestatic index, 3)) (hf : cells + mc ≤ R.cells ∧ slots + ms ≤ R.slots) :
    vx_Run p l e R s m args below meth c H locs cells slots mc ms g rest (Qc As.toArray) XC free := by
  obtain ⟨⟨hrc, hrs, hfr, hlo, hws, hcw⟩, hcode, hini, hy, hlen, hl, hstt⟩ := cw
  have hK : vx_Back l R p e below s args y 3 8 (PreOf R mc ms Pc) (PostOf Qc mc ms free) (vx_Post XC mc ms free) := vx_backW (hh := hh) (bytes := bytes) (maxL := maxL) (ret := ret) hM hp.1 hrc hrs hfr hlo hws hcw (fun a' U hW => word_at hW (Or.inl (by first | rfl | simp [Cond.onTables, Cond.keeps, Cond.steady])) hini)
  obtain ⟨hx, hb, hml, ho, -⟩ := S
  intro T hT X
  rcases vx_callSX X hx (hh := hh) (bytes := bytes) (maxL := maxL) (ret := ret) ho hl hstt hini hcode hy hK hg (hsize.trans hml.symm) (argsL := As) (rest := rest) (fun sig h => hn.trans (hlen sig h)) hstack hW (by rw [hb]; exact hdg)
    (fun vm₁ hW₁ => ⟨hf.1, hf.2, hp.2 (T.setVm vm₁) hT hW₁⟩) with ⟨v, vm₁, ⟨U', l2, c2, s2⟩, hW₁, X', ⟨g', mk, t, L, e1, e2, hq, h1, hL, h2, h3⟩, st⟩ | ⟨q, vm₁, ⟨U', l2, c2, s2⟩, hW₁, X', ⟨g', mk, t, L, E, ce, e1, e2, hq, hce, hcv, hcl, h1, hL, h2, h3⟩, st⟩
  · dsimp only [Pt.U, Pt.locs, Pt.cells, Pt.slots] at X' e1 e2 h1 h2 h3 st
    subst h1; subst h2; subst h3
    exact Or.inl ⟨v, (T.setVm vm₁).calling g' mk As.toArray, t, U', L, hT, X', hL, e1, e2, hq, st⟩
  · dsimp only [Pt.U, Pt.locs, Pt.cells, Pt.slots] at X' e1 e2 h1 h2 h3 st hcl
    subst h1; subst h2; subst h3
    exact Or.inr ⟨q, (T.setVm vm₁).calling g' mk As.toArray, t, U', L, E, ce, hT, X', hL, e1, e2, hq, hce, hcv, vx_cls hW₁ hcl, st⟩
end
end VXH
theorem vx_ofWH {l : Launch} {y : MethodName} {ws ws' : List Cond} {rm : Room} {Pc : Array Value → State → Prop} {Qc : Array Value → State → Outcome → State → Prop} {XC : String → State → State → Prop} {mc ms : Nat} {free : Addr → Prop} {cc : ByteArray} {maxL : Nat} {ret : Option FieldType} {hh : List (Nat × Nat × Nat × Nat)}
    (hy : plainName y.cls = true) (hw : ws = Cond.codeWith y cc maxL ret hh :: ws')
    (body : ∀ p e s m args below meth c s₁, BodyLoose p l y (headSpec ws rm) cc maxL ret e s m args below meth c s₁ → c.maxLocals = maxL → Pc args s →
      W p l e (headSpec ws rm).room s m args below meth c s.heap [] 0 0 (vx_MQ below Qc XC args s mc ms free) (entryFrame m args maxL)) : vx_Met l y ws rm Pc Qc XC mc ms free := by
  refine MetFree.of_bodyS (code := cc) (maxLocals := maxL) (ret := ret) hy ?_ ?_
  · intro args s m h hn
    obtain ⟨m9, meth, c, hn9, h1, h2, h3, h4, -, h5, h6, -⟩ := Cond.codeWith_spec (atoms_spec (ws := ws) h _ (by rw [hw]; exact List.mem_cons_self))
    cases hn.symm.trans hn9
    exact ⟨meth, c, h1, h2, h3, h4, h5, h6⟩
  · intro p e s m args below meth c s₁ B hml hP _
    have hh0 : s₁.heap = s.heap := by rw [B.state]; rfl
    obtain ⟨t, a1, o, b1, b2, b3⟩ := body p e s m args below meth c s₁ B hml hP s₁ hh0 (Stand.of_body B)
    exact ⟨t, o, a1, b1, b2, b3⟩
/-! ===== END ===== -/
end
section
/-! ===== BEGIN printed: names, fields, word lists, decode rows ===== -/
def RX0 : String := "HayThieves$Cart"
def TX0 : u_T := fun k => match k with
  | 0 => ("HayThieves$Cart", "heaps", "[I", true)
  | _ => ("HayThieves$Cart", "size", "I", false)
def tyX0 : Nat → FieldType := fun k => match k with
  | 0 => .array .int
  | _ => .int
abbrev wsX00 : List Cond := u_ws RX0 TX0 2
theorem nmX0 : ∀ a, a < 2 → ∀ b, b < 2 → a ≠ b → (TX0 a).2.1 ≠ (TX0 b).2.1 := by decide +kernel
theorem tyX0_ok : ∀ k, k < 2 → parseFieldDescriptor (TX0 k).2.2.1 = some (tyX0 k) := by decide +kernel
abbrev cX0_init : ByteArray := prog_2_method_1_code
def yX0_init : MethodName := ⟨RX0, "<init>", "()V"⟩
abbrev cX0_heapAt : ByteArray := prog_2_method_2_code
def yX0_heapAt : MethodName := ⟨RX0, "heapAt", "(I)I"⟩
abbrev cX0_farHeap : ByteArray := prog_2_method_3_code
def yX0_farHeap : MethodName := ⟨RX0, "farHeap", "()I"⟩
abbrev cX0_hasRoom : ByteArray := prog_2_method_4_code
def yX0_hasRoom : MethodName := ⟨RX0, "hasRoom", "()Z"⟩
abbrev cX0_putNear : ByteArray := prog_2_method_5_code
def yX0_putNear : MethodName := ⟨RX0, "putNear", "(I)V"⟩
abbrev cX0_takeNear : ByteArray := prog_2_method_6_code
def yX0_takeNear : MethodName := ⟨RX0, "takeNear", "()I"⟩
abbrev cX0_takeFar : ByteArray := prog_2_method_7_code
def yX0_takeFar : MethodName := ⟨RX0, "takeFar", "()I"⟩
abbrev cX0_copyFrom : ByteArray := prog_2_method_8_code
def yX0_copyFrom : MethodName := ⟨RX0, "copyFrom", "(LHayThieves$Cart;)V"⟩
def RX1 : String := "HayThieves$Lad"
def TX1 : u_T := fun k => match k with
  | 0 => ("HayThieves$Lad", "number", "I", true)
  | 1 => ("HayThieves$Lad", "strength", "I", false)
  | 2 => ("HayThieves$Lad", "way", "I", false)
  | 3 => ("HayThieves$Lad", "cart", "LHayThieves$Cart;", false)
  | 4 => ("HayThieves$Lad", "hands", "I", false)
  | 5 => ("HayThieves$Lad", "balesLeft", "I", false)
  | 6 => ("HayThieves$Lad", "toJoin", "I", false)
  | 7 => ("HayThieves$Lad", "asleep", "Z", false)
  | 8 => ("HayThieves$Lad", "idleInRow", "I", false)
  | 9 => ("HayThieves$Lad", "idleMinutes", "I", false)
  | 10 => ("HayThieves$Lad", "thefts", "I", false)
  | _ => ("HayThieves$Lad", "theftsFrom", "I", false)
def tyX1 : Nat → FieldType := fun k => match k with
  | 0 => .int
  | 1 => .int
  | 2 => .int
  | 3 => .object "HayThieves$Cart"
  | 4 => .int
  | 5 => .int
  | 6 => .int
  | 7 => .boolean
  | 8 => .int
  | 9 => .int
  | 10 => .int
  | _ => .int
abbrev wsX10 : List Cond := u_ws RX1 TX1 12
theorem nmX1 : ∀ a, a < 12 → ∀ b, b < 12 → a ≠ b → (TX1 a).2.1 ≠ (TX1 b).2.1 := by decide +kernel
theorem tyX1_ok : ∀ k, k < 12 → parseFieldDescriptor (TX1 k).2.2.1 = some (tyX1 k) := by decide +kernel
abbrev cX1_init : ByteArray := prog_3_method_1_code
def yX1_init : MethodName := ⟨RX1, "<init>", "(I)V"⟩
abbrev cX1_tell : ByteArray := prog_3_method_2_code
def yX1_tell : MethodName := ⟨RX1, "tell", "(I)I"⟩
abbrev cX1_doing : ByteArray := prog_3_method_3_code
def yX1_doing : MethodName := ⟨RX1, "doing", "()I"⟩
abbrev cX1_loadAtWork : ByteArray := prog_3_method_4_code
def yX1_loadAtWork : MethodName := ⟨RX1, "loadAtWork", "()I"⟩
abbrev cX1_take : ByteArray := prog_3_method_5_code
def yX1_take : MethodName := ⟨RX1, "take", "(II)V"⟩
abbrev cX1_beIdle : ByteArray := prog_3_method_6_code
def yX1_beIdle : MethodName := ⟨RX1, "beIdle", "()V"⟩
abbrev cX1_copyFrom : ByteArray := prog_3_method_7_code
def yX1_copyFrom : MethodName := ⟨RX1, "copyFrom", "(LHayThieves$Lad;)V"⟩
def RX2 : String := "HayThieves$Load"
def TX2 : u_T := fun k => match k with
  | 0 => ("HayThieves$Load", "bales", "I", false)
  | 1 => ("HayThieves$Load", "state", "I", false)
  | 2 => ("HayThieves$Load", "broughtAt", "I", false)
  | 3 => ("HayThieves$Load", "doneAt", "I", false)
  | 4 => ("HayThieves$Load", "heaps", "I", false)
  | 5 => ("HayThieves$Load", "thefts", "I", false)
  | _ => ("HayThieves$Load", "pitched", "I", false)
def tyX2 : Nat → FieldType := fun k => match k with
  | 0 => .int
  | 1 => .int
  | 2 => .int
  | 3 => .int
  | 4 => .int
  | 5 => .int
  | _ => .int
abbrev wsX20 : List Cond := u_ws RX2 TX2 7
theorem nmX2 : ∀ a, a < 7 → ∀ b, b < 7 → a ≠ b → (TX2 a).2.1 ≠ (TX2 b).2.1 := by decide +kernel
theorem tyX2_ok : ∀ k, k < 7 → parseFieldDescriptor (TX2 k).2.2.1 = some (tyX2 k) := by decide +kernel
abbrev cX2_init : ByteArray := prog_4_method_1_code
def yX2_init : MethodName := ⟨RX2, "<init>", "()V"⟩
abbrev cX2_tell : ByteArray := prog_4_method_2_code
def yX2_tell : MethodName := ⟨RX2, "tell", "(I)I"⟩
abbrev cX2_copyFrom : ByteArray := prog_4_method_3_code
def yX2_copyFrom : MethodName := ⟨RX2, "copyFrom", "(LHayThieves$Load;)V"⟩
def RX3 : String := "HayThieves$Yard"
def TX3 : u_T := fun k => match k with
  | 0 => ("HayThieves$Yard", "lads", "[LHayThieves$Lad;", true)
  | 1 => ("HayThieves$Yard", "loads", "[LHayThieves$Load;", true)
  | 2 => ("HayThieves$Yard", "heapBales", "[I", true)
  | 3 => ("HayThieves$Yard", "heapDone", "[Z", true)
  | 4 => ("HayThieves$Yard", "ladCount", "I", false)
  | 5 => ("HayThieves$Yard", "loadCount", "I", false)
  | 6 => ("HayThieves$Yard", "minute", "I", false)
  | 7 => ("HayThieves$Yard", "forkSize", "I", false)
  | 8 => ("HayThieves$Yard", "forkings", "I", false)
  | _ => ("HayThieves$Yard", "joinings", "I", false)
def tyX3 : Nat → FieldType := fun k => match k with
  | 0 => .array (.object "HayThieves$Lad")
  | 1 => .array (.object "HayThieves$Load")
  | 2 => .array .int
  | 3 => .array .boolean
  | 4 => .int
  | 5 => .int
  | 6 => .int
  | 7 => .int
  | 8 => .int
  | _ => .int
abbrev wsX30 : List Cond := u_ws RX3 TX3 10
theorem nmX3 : ∀ a, a < 10 → ∀ b, b < 10 → a ≠ b → (TX3 a).2.1 ≠ (TX3 b).2.1 := by decide +kernel
theorem tyX3_ok : ∀ k, k < 10 → parseFieldDescriptor (TX3 k).2.2.1 = some (tyX3 k) := by decide +kernel
abbrev cX3_init : ByteArray := prog_5_method_1_code
def yX3_init : MethodName := ⟨RX3, "<init>", "()V"⟩
abbrev cX3_addLad : ByteArray := prog_5_method_2_code
def yX3_addLad : MethodName := ⟨RX3, "addLad", "(I)I"⟩
abbrev cX3_addLoad : ByteArray := prog_5_method_3_code
def yX3_addLoad : MethodName := ⟨RX3, "addLoad", "(I)I"⟩
abbrev cX3_wakeAll : ByteArray := prog_5_method_4_code
def yX3_wakeAll : MethodName := ⟨RX3, "wakeAll", "()V"⟩
abbrev cX3_tell : ByteArray := prog_5_method_5_code
def yX3_tell : MethodName := ⟨RX3, "tell", "(I)I"⟩
abbrev cX3_loadsThatAre : ByteArray := prog_5_method_6_code
def yX3_loadsThatAre : MethodName := ⟨RX3, "loadsThatAre", "(I)I"⟩
abbrev cX3_sumOverLads : ByteArray := prog_5_method_7_code
def yX3_sumOverLads : MethodName := ⟨RX3, "sumOverLads", "(I)I"⟩
abbrev cX3_sumOverLoads : ByteArray := prog_5_method_8_code
def yX3_sumOverLoads : MethodName := ⟨RX3, "sumOverLoads", "(I)I"⟩
abbrev cX3_sleepers : ByteArray := prog_5_method_9_code
def yX3_sleepers : MethodName := ⟨RX3, "sleepers", "()I"⟩
abbrev cX3_balesOf : ByteArray := prog_5_method_10_code
def yX3_balesOf : MethodName := ⟨RX3, "balesOf", "(I)I"⟩
abbrev cX3_setBales : ByteArray := prog_5_method_11_code
def yX3_setBales : MethodName := ⟨RX3, "setBales", "(II)V"⟩
abbrev cX3_loadOf : ByteArray := prog_5_method_12_code
def yX3_loadOf : MethodName := ⟨RX3, "loadOf", "(I)LHayThieves$Load;"⟩
abbrev cX3_victimOf : ByteArray := prog_5_method_13_code
def yX3_victimOf : MethodName := ⟨RX3, "victimOf", "(LHayThieves$Lad;)I"⟩
abbrev cX3_canBeRobbed : ByteArray := prog_5_method_14_code
def yX3_canBeRobbed : MethodName := ⟨RX3, "canBeRobbed", "(LHayThieves$Lad;LHayThieves$Lad;)Z"⟩
abbrev cX3_nextWithHay : ByteArray := prog_5_method_15_code
def yX3_nextWithHay : MethodName := ⟨RX3, "nextWithHay", "(LHayThieves$Lad;)I"⟩
abbrev cX3_fullestCart : ByteArray := prog_5_method_16_code
def yX3_fullestCart : MethodName := ⟨RX3, "fullestCart", "(LHayThieves$Lad;)I"⟩
abbrev cX3_greatestFarHeap : ByteArray := prog_5_method_17_code
def yX3_greatestFarHeap : MethodName := ⟨RX3, "greatestFarHeap", "(LHayThieves$Lad;)I"⟩
abbrev cX3_runMinutes : ByteArray := prog_5_method_18_code
def yX3_runMinutes : MethodName := ⟨RX3, "runMinutes", "(I)V"⟩
abbrev cX3_takeTurn : ByteArray := prog_5_method_19_code
def yX3_takeTurn : MethodName := ⟨RX3, "takeTurn", "(LHayThieves$Lad;)V"⟩
abbrev cX3_takeFromOwnCart : ByteArray := prog_5_method_20_code
def yX3_takeFromOwnCart : MethodName := ⟨RX3, "takeFromOwnCart", "(LHayThieves$Lad;)V"⟩
abbrev cX3_joinHalves : ByteArray := prog_5_method_21_code
def yX3_joinHalves : MethodName := ⟨RX3, "joinHalves", "(LHayThieves$Lad;)V"⟩
abbrev cX3_workOnHeap : ByteArray := prog_5_method_22_code
def yX3_workOnHeap : MethodName := ⟨RX3, "workOnHeap", "(LHayThieves$Lad;)V"⟩
abbrev cX3_forkHeap : ByteArray := prog_5_method_23_code
def yX3_forkHeap : MethodName := ⟨RX3, "forkHeap", "(LHayThieves$Lad;)V"⟩
abbrev cX3_wakeFirstSleeper : ByteArray := prog_5_method_24_code
def yX3_wakeFirstSleeper : MethodName := ⟨RX3, "wakeFirstSleeper", "()V"⟩
abbrev cX3_pitch : ByteArray := prog_5_method_25_code
def yX3_pitch : MethodName := ⟨RX3, "pitch", "(LHayThieves$Lad;)V"⟩
abbrev cX3_finishHeap : ByteArray := prog_5_method_26_code
def yX3_finishHeap : MethodName := ⟨RX3, "finishHeap", "(LHayThieves$Lad;I)V"⟩
abbrev cX3_otherHalf : ByteArray := prog_5_method_27_code
def yX3_otherHalf : MethodName := ⟨RX3, "otherHalf", "(I)I"⟩
abbrev cX3_takeFromYard : ByteArray := prog_5_method_28_code
def yX3_takeFromYard : MethodName := ⟨RX3, "takeFromYard", "(LHayThieves$Lad;)Z"⟩
abbrev cX3_steal : ByteArray := prog_5_method_29_code
def yX3_steal : MethodName := ⟨RX3, "steal", "(LHayThieves$Lad;)Z"⟩
abbrev cX3_copyFrom : ByteArray := prog_5_method_30_code
def yX3_copyFrom : MethodName := ⟨RX3, "copyFrom", "(LHayThieves$Yard;)V"⟩
def RX4 : String := "HayThieves"
def TX4 : u_T := fun k => match k with
  | 0 => ("HayThieves", "now", "LHayThieves$Yard;", true)
  | _ => ("HayThieves", "trial", "LHayThieves$Yard;", true)
def tyX4 : Nat → FieldType := fun k => match k with
  | 0 => .object "HayThieves$Yard"
  | _ => .object "HayThieves$Yard"
abbrev wsX40 : List Cond := u_ws RX4 TX4 2
theorem nmX4 : ∀ a, a < 2 → ∀ b, b < 2 → a ≠ b → (TX4 a).2.1 ≠ (TX4 b).2.1 := by decide +kernel
theorem tyX4_ok : ∀ k, k < 2 → parseFieldDescriptor (TX4 k).2.2.1 = some (tyX4 k) := by decide +kernel
abbrev cX4_init : ByteArray := prog_1_method_1_code
def yX4_init : MethodName := ⟨RX4, "<init>", "()V"⟩
abbrev cX4_come : ByteArray := prog_1_method_2_code
def yX4_come : MethodName := ⟨RX4, "come", "(I)I"⟩
abbrev cX4_setWay : ByteArray := prog_1_method_3_code
def yX4_setWay : MethodName := ⟨RX4, "setWay", "(II)I"⟩
abbrev cX4_setFork : ByteArray := prog_1_method_4_code
def yX4_setFork : MethodName := ⟨RX4, "setFork", "(I)I"⟩
abbrev cX4_bring : ByteArray := prog_1_method_5_code
def yX4_bring : MethodName := ⟨RX4, "bring", "(I)I"⟩
abbrev cX4_swap : ByteArray := prog_1_method_6_code
def yX4_swap : MethodName := ⟨RX4, "swap", "(II)I"⟩
abbrev cX4_wake : ByteArray := prog_1_method_7_code
def yX4_wake : MethodName := ⟨RX4, "wake", "(I)I"⟩
abbrev cX4_lad : ByteArray := prog_1_method_8_code
def yX4_lad : MethodName := ⟨RX4, "lad", "(II)I"⟩
abbrev cX4_cart : ByteArray := prog_1_method_9_code
def yX4_cart : MethodName := ⟨RX4, "cart", "(II)I"⟩
abbrev cX4_load : ByteArray := prog_1_method_10_code
def yX4_load : MethodName := ⟨RX4, "load", "(II)I"⟩
abbrev cX4_count : ByteArray := prog_1_method_11_code
def yX4_count : MethodName := ⟨RX4, "count", "(I)I"⟩
abbrev cX4_victim : ByteArray := prog_1_method_12_code
def yX4_victim : MethodName := ⟨RX4, "victim", "(I)I"⟩
abbrev cX4_thief : ByteArray := prog_1_method_13_code
def yX4_thief : MethodName := ⟨RX4, "thief", "()I"⟩
abbrev cX4_pass : ByteArray := prog_1_method_14_code
def yX4_pass : MethodName := ⟨RX4, "pass", "(I)I"⟩
abbrev cX4_until : ByteArray := prog_1_method_15_code
def yX4_until : MethodName := ⟨RX4, "until", "(I)I"⟩
abbrev cX4_foresee : ByteArray := prog_1_method_16_code
def yX4_foresee : MethodName := ⟨RX4, "foresee", "(II)I"⟩
abbrev cX4_advise : ByteArray := prog_1_method_17_code
def yX4_advise : MethodName := ⟨RX4, "advise", "(I)I"⟩
abbrev cX4_mean : ByteArray := prog_1_method_18_code
def yX4_mean : MethodName := ⟨RX4, "mean", "()D"⟩
abbrev cX4_digest : ByteArray := prog_1_method_19_code
def yX4_digest : MethodName := ⟨RX4, "digest", "()J"⟩
abbrev cX4_mixedWithLad : ByteArray := prog_1_method_20_code
def yX4_mixedWithLad : MethodName := ⟨RX4, "mixedWithLad", "(JLHayThieves$Lad;)J"⟩
abbrev cX4_mixed : ByteArray := prog_1_method_21_code
def yX4_mixed : MethodName := ⟨RX4, "mixed", "(JI)J"⟩
abbrev cX4_needLad : ByteArray := prog_1_method_22_code
def yX4_needLad : MethodName := ⟨RX4, "needLad", "(I)V"⟩
abbrev cX4_needLoad : ByteArray := prog_1_method_23_code
def yX4_needLoad : MethodName := ⟨RX4, "needLoad", "(I)V"⟩
abbrev cX4_needMinutes : ByteArray := prog_1_method_24_code
def yX4_needMinutes : MethodName := ⟨RX4, "needMinutes", "(II)V"⟩
def RX5 : String := "HayThievesModel$State"
def TX5 : u_T := fun k => match k with
  | 0 => ("HayThievesModel$State", "minute", "I", false)
  | 1 => ("HayThievesModel$State", "thefts", "I", false)
  | 2 => ("HayThievesModel$State", "forkings", "I", false)
  | 3 => ("HayThievesModel$State", "joinings", "I", false)
  | 4 => ("HayThievesModel$State", "pitched", "I", false)
  | 5 => ("HayThievesModel$State", "does", "[I", true)
  | 6 => ("HayThievesModel$State", "held", "[I", true)
  | 7 => ("HayThievesModel$State", "row", "[I", true)
  | 8 => ("HayThievesModel$State", "stole", "[I", true)
  | 9 => ("HayThievesModel$State", "lost", "[I", true)
  | 10 => ("HayThievesModel$State", "idle", "[I", true)
  | 11 => ("HayThievesModel$State", "many", "[I", true)
  | 12 => ("HayThievesModel$State", "carts", "[I", true)
  | 13 => ("HayThievesModel$State", "stands", "[I", true)
  | 14 => ("HayThievesModel$State", "heap", "[I", true)
  | 15 => ("HayThievesModel$State", "doneAt", "[I", true)
  | 16 => ("HayThievesModel$State", "made", "[I", true)
  | 17 => ("HayThievesModel$State", "stolen", "[I", true)
  | 18 => ("HayThievesModel$State", "out", "[I", true)
  | 19 => ("HayThievesModel$State", "heaps", "I", false)
  | 20 => ("HayThievesModel$State", "bales", "[I", true)
  | 21 => ("HayThievesModel$State", "left", "[I", true)
  | 22 => ("HayThievesModel$State", "of", "[I", true)
  | 23 => ("HayThievesModel$State", "whole", "[I", true)
  | 24 => ("HayThievesModel$State", "mate", "[I", true)
  | _ => ("HayThievesModel$State", "done", "[I", true)
def tyX5 : Nat → FieldType := fun k => match k with
  | 0 => .int
  | 1 => .int
  | 2 => .int
  | 3 => .int
  | 4 => .int
  | 5 => .array .int
  | 6 => .array .int
  | 7 => .array .int
  | 8 => .array .int
  | 9 => .array .int
  | 10 => .array .int
  | 11 => .array .int
  | 12 => .array .int
  | 13 => .array .int
  | 14 => .array .int
  | 15 => .array .int
  | 16 => .array .int
  | 17 => .array .int
  | 18 => .array .int
  | 19 => .int
  | 20 => .array .int
  | 21 => .array .int
  | 22 => .array .int
  | 23 => .array .int
  | 24 => .array .int
  | _ => .array .int
abbrev wsX50 : List Cond := u_ws RX5 TX5 26
theorem nmX5 : ∀ a, a < 26 → ∀ b, b < 26 → a ≠ b → (TX5 a).2.1 ≠ (TX5 b).2.1 := by decide +kernel
theorem tyX5_ok : ∀ k, k < 26 → parseFieldDescriptor (TX5 k).2.2.1 = some (tyX5 k) := by decide +kernel
abbrev cX5_init : ByteArray := prog_8_method_1_code
def yX5_init : MethodName := ⟨RX5, "<init>", "()V"⟩
abbrev cX5_copy : ByteArray := prog_8_method_2_code
def yX5_copy : MethodName := ⟨RX5, "copy", "([I[II)V"⟩
abbrev cX5_become : ByteArray := prog_8_method_3_code
def yX5_become : MethodName := ⟨RX5, "become", "(LHayThievesModel$State;)LHayThievesModel$State;"⟩
abbrev cX5_add : ByteArray := prog_8_method_4_code
def yX5_add : MethodName := ⟨RX5, "add", "(III)I"⟩
abbrev cX5_far : ByteArray := prog_8_method_5_code
def yX5_far : MethodName := ⟨RX5, "far", "(I)I"⟩
abbrev cX5_putNear : ByteArray := prog_8_method_6_code
def yX5_putNear : MethodName := ⟨RX5, "putNear", "(II)V"⟩
abbrev cX5_takeNear : ByteArray := prog_8_method_7_code
def yX5_takeNear : MethodName := ⟨RX5, "takeNear", "(I)I"⟩
abbrev cX5_hold : ByteArray := prog_8_method_8_code
def yX5_hold : MethodName := ⟨RX5, "hold", "(II)V"⟩
abbrev cX5_finish : ByteArray := prog_8_method_9_code
def yX5_finish : MethodName := ⟨RX5, "finish", "(II)V"⟩
abbrev cX5_forkIt : ByteArray := prog_8_method_10_code
def yX5_forkIt : MethodName := ⟨RX5, "forkIt", "(II)V"⟩
abbrev cX5_pitch : ByteArray := prog_8_method_11_code
def yX5_pitch : MethodName := ⟨RX5, "pitch", "(III)V"⟩
abbrev cX5_rest : ByteArray := prog_8_method_12_code
def yX5_rest : MethodName := ⟨RX5, "rest", "(I)V"⟩
abbrev cX5_steal : ByteArray := prog_8_method_13_code
def yX5_steal : MethodName := ⟨RX5, "steal", "(II)V"⟩
def RX6 : String := "HayThievesModel"
def TX6 : u_T := fun k => match k with
  | 0 => ("HayThievesModel", "thrown", "I", false)
  | 1 => ("HayThievesModel", "lads", "I", false)
  | 2 => ("HayThievesModel", "strength", "[I", true)
  | 3 => ("HayThievesModel", "way", "[I", true)
  | 4 => ("HayThievesModel", "loads", "I", false)
  | 5 => ("HayThievesModel", "size", "[I", true)
  | 6 => ("HayThievesModel", "came", "[I", true)
  | 7 => ("HayThievesModel", "fork", "I", false)
  | 8 => ("HayThievesModel", "s", "LHayThievesModel$State;", true)
  | _ => ("HayThievesModel", "ahead", "LHayThievesModel$State;", true)
def tyX6 : Nat → FieldType := fun k => match k with
  | 0 => .int
  | 1 => .int
  | 2 => .array .int
  | 3 => .array .int
  | 4 => .int
  | 5 => .array .int
  | 6 => .array .int
  | 7 => .int
  | 8 => .object "HayThievesModel$State"
  | _ => .object "HayThievesModel$State"
abbrev wsX60 : List Cond := u_ws RX6 TX6 10
theorem nmX6 : ∀ a, a < 10 → ∀ b, b < 10 → a ≠ b → (TX6 a).2.1 ≠ (TX6 b).2.1 := by decide +kernel
theorem tyX6_ok : ∀ k, k < 10 → parseFieldDescriptor (TX6 k).2.2.1 = some (tyX6 k) := by decide +kernel
abbrev cX6_init : ByteArray := prog_7_method_1_code
def yX6_init : MethodName := ⟨RX6, "<init>", "()V"⟩
abbrev cX6_thrown : ByteArray := prog_7_method_2_code
def yX6_thrown : MethodName := ⟨RX6, "thrown", "()I"⟩
abbrev cX6_no : ByteArray := prog_7_method_3_code
def yX6_no : MethodName := ⟨RX6, "no", "(I)I"⟩
abbrev cX6_isIn : ByteArray := prog_7_method_4_code
def yX6_isIn : MethodName := ⟨RX6, "isIn", "(III)Z"⟩
abbrev cX6_isLad : ByteArray := prog_7_method_5_code
def yX6_isLad : MethodName := ⟨RX6, "isLad", "(I)Z"⟩
abbrev cX6_isLoad : ByteArray := prog_7_method_6_code
def yX6_isLoad : MethodName := ⟨RX6, "isLoad", "(I)Z"⟩
abbrev cX6_rank : ByteArray := prog_7_method_7_code
def yX6_rank : MethodName := ⟨RX6, "rank", "(LHayThievesModel$State;II)I"⟩
abbrev cX6_victimOf : ByteArray := prog_7_method_8_code
def yX6_victimOf : MethodName := ⟨RX6, "victimOf", "(LHayThievesModel$State;I)I"⟩
abbrev cX6_inYard : ByteArray := prog_7_method_9_code
def yX6_inYard : MethodName := ⟨RX6, "inYard", "(LHayThievesModel$State;)I"⟩
abbrev cX6_turn : ByteArray := prog_7_method_10_code
def yX6_turn : MethodName := ⟨RX6, "turn", "(LHayThievesModel$State;II)V"⟩
abbrev cX6_pass : ByteArray := prog_7_method_11_code
def yX6_pass : MethodName := ⟨RX6, "pass", "(LHayThievesModel$State;I)V"⟩
abbrev cX6_passAll : ByteArray := prog_7_method_12_code
def yX6_passAll : MethodName := ⟨RX6, "passAll", "(LHayThievesModel$State;II)LHayThievesModel$State;"⟩
abbrev cX6_come : ByteArray := prog_7_method_13_code
def yX6_come : MethodName := ⟨RX6, "come", "(I)I"⟩
abbrev cX6_setWay : ByteArray := prog_7_method_14_code
def yX6_setWay : MethodName := ⟨RX6, "setWay", "(II)I"⟩
abbrev cX6_setFork : ByteArray := prog_7_method_15_code
def yX6_setFork : MethodName := ⟨RX6, "setFork", "(I)I"⟩
abbrev cX6_bring : ByteArray := prog_7_method_16_code
def yX6_bring : MethodName := ⟨RX6, "bring", "(I)I"⟩
abbrev cX6_swap : ByteArray := prog_7_method_17_code
def yX6_swap : MethodName := ⟨RX6, "swap", "(II)I"⟩
abbrev cX6_sleepers : ByteArray := prog_7_method_18_code
def yX6_sleepers : MethodName := ⟨RX6, "sleepers", "(LHayThievesModel$State;)I"⟩
abbrev cX6_wake : ByteArray := prog_7_method_19_code
def yX6_wake : MethodName := ⟨RX6, "wake", "(I)I"⟩
abbrev cX6_loadOf : ByteArray := prog_7_method_20_code
def yX6_loadOf : MethodName := ⟨RX6, "loadOf", "(I)I"⟩
abbrev cX6_ladTold : ByteArray := prog_7_method_21_code
def yX6_ladTold : MethodName := ⟨RX6, "ladTold", "(II)I"⟩
abbrev cX6_lad : ByteArray := prog_7_method_22_code
def yX6_lad : MethodName := ⟨RX6, "lad", "(II)I"⟩
abbrev cX6_cart : ByteArray := prog_7_method_23_code
def yX6_cart : MethodName := ⟨RX6, "cart", "(II)I"⟩
abbrev cX6_loadTold : ByteArray := prog_7_method_24_code
def yX6_loadTold : MethodName := ⟨RX6, "loadTold", "(II)I"⟩
abbrev cX6_load : ByteArray := prog_7_method_25_code
def yX6_load : MethodName := ⟨RX6, "load", "(II)I"⟩
abbrev cX6_loadsThat : ByteArray := prog_7_method_26_code
def yX6_loadsThat : MethodName := ⟨RX6, "loadsThat", "(LHayThievesModel$State;I)I"⟩
abbrev cX6_sumOf : ByteArray := prog_7_method_27_code
def yX6_sumOf : MethodName := ⟨RX6, "sumOf", "([I)I"⟩
abbrev cX6_counted : ByteArray := prog_7_method_28_code
def yX6_counted : MethodName := ⟨RX6, "counted", "(LHayThievesModel$State;I)I"⟩
abbrev cX6_count : ByteArray := prog_7_method_29_code
def yX6_count : MethodName := ⟨RX6, "count", "(I)I"⟩
abbrev cX6_victim : ByteArray := prog_7_method_30_code
def yX6_victim : MethodName := ⟨RX6, "victim", "(I)I"⟩
abbrev cX6_thief : ByteArray := prog_7_method_31_code
def yX6_thief : MethodName := ⟨RX6, "thief", "()I"⟩
abbrev cX6_pass_ : ByteArray := prog_7_method_32_code
def yX6_pass_ : MethodName := ⟨RX6, "pass", "(I)I"⟩
abbrev cX6_until : ByteArray := prog_7_method_33_code
def yX6_until : MethodName := ⟨RX6, "until", "(I)I"⟩
abbrev cX6_foresee : ByteArray := prog_7_method_34_code
def yX6_foresee : MethodName := ⟨RX6, "foresee", "(II)I"⟩
abbrev cX6_advise : ByteArray := prog_7_method_35_code
def yX6_advise : MethodName := ⟨RX6, "advise", "(I)I"⟩
abbrev cX6_mean : ByteArray := prog_7_method_36_code
def yX6_mean : MethodName := ⟨RX6, "mean", "()D"⟩
abbrev cX6_digest : ByteArray := prog_7_method_37_code
def yX6_digest : MethodName := ⟨RX6, "digest", "()J"⟩
def RJ9 : String := "java/lang/Math"
def TJ9 : u_T := fun k => match k with
  | _ => ("", "", "", false)
def tyJ9 : Nat → FieldType := fun k => match k with
  | _ => .int
abbrev wsJ90 : List Cond := u_ws RJ9 TJ9 0
theorem nmJ9 : ∀ a, a < 0 → ∀ b, b < 0 → a ≠ b → (TJ9 a).2.1 ≠ (TJ9 b).2.1 := by decide +kernel
theorem tyJ9_ok : ∀ k, k < 0 → parseFieldDescriptor (TJ9 k).2.2.1 = some (tyJ9 k) := by decide +kernel
abbrev cJ9_min_7cf53 : ByteArray := prog_13_method_69_code
def yJ9_min_7cf53 : MethodName := ⟨RJ9, "min", "(II)I"⟩
def RJ0 : String := "java/lang/String"
def TJ0 : u_T := fun k => match k with
  | _ => ("", "", "", false)
def tyJ0 : Nat → FieldType := fun k => match k with
  | _ => .int
abbrev wsJ00 : List Cond := u_ws RJ0 TJ0 0
theorem nmJ0 : ∀ a, a < 0 → ∀ b, b < 0 → a ≠ b → (TJ0 a).2.1 ≠ (TJ0 b).2.1 := by decide +kernel
theorem tyJ0_ok : ∀ k, k < 0 → parseFieldDescriptor (TJ0 k).2.2.1 = some (tyJ0 k) := by decide +kernel
def RJ10 : String := "java/lang/System"
def TJ10 : u_T := fun k => match k with
  | _ => ("", "", "", false)
def tyJ10 : Nat → FieldType := fun k => match k with
  | _ => .int
abbrev wsJ100 : List Cond := u_ws RJ10 TJ10 0
theorem nmJ10 : ∀ a, a < 0 → ∀ b, b < 0 → a ≠ b → (TJ10 a).2.1 ≠ (TJ10 b).2.1 := by decide +kernel
theorem tyJ10_ok : ∀ k, k < 0 → parseFieldDescriptor (TJ10 k).2.2.1 = some (tyJ10 k) := by decide +kernel
def RL : String := "HayThievesLaw"
abbrev cL_come : ByteArray := method_3_code
def yL_come : MethodName := ⟨RL, "come", "(LHayThieves;I[J)I"⟩
abbrev cL_setWay : ByteArray := method_4_code
def yL_setWay : MethodName := ⟨RL, "setWay", "(LHayThieves;II[J)I"⟩
abbrev cL_setFork : ByteArray := method_5_code
def yL_setFork : MethodName := ⟨RL, "setFork", "(LHayThieves;I[J)I"⟩
abbrev cL_bring : ByteArray := method_6_code
def yL_bring : MethodName := ⟨RL, "bring", "(LHayThieves;I[J)I"⟩
abbrev cL_swap : ByteArray := method_7_code
def yL_swap : MethodName := ⟨RL, "swap", "(LHayThieves;II[J)I"⟩
abbrev cL_wake : ByteArray := method_8_code
def yL_wake : MethodName := ⟨RL, "wake", "(LHayThieves;I[J)I"⟩
abbrev cL_lad : ByteArray := method_9_code
def yL_lad : MethodName := ⟨RL, "lad", "(LHayThieves;II[J)I"⟩
abbrev cL_cart : ByteArray := method_10_code
def yL_cart : MethodName := ⟨RL, "cart", "(LHayThieves;II[J)I"⟩
abbrev cL_load : ByteArray := method_11_code
def yL_load : MethodName := ⟨RL, "load", "(LHayThieves;II[J)I"⟩
abbrev cL_count : ByteArray := method_12_code
def yL_count : MethodName := ⟨RL, "count", "(LHayThieves;I[J)I"⟩
abbrev cL_victim : ByteArray := method_13_code
def yL_victim : MethodName := ⟨RL, "victim", "(LHayThieves;I[J)I"⟩
abbrev cL_pass : ByteArray := method_14_code
def yL_pass : MethodName := ⟨RL, "pass", "(LHayThieves;I[J)I"⟩
abbrev cL_until : ByteArray := method_15_code
def yL_until : MethodName := ⟨RL, "until", "(LHayThieves;I[J)I"⟩
abbrev cL_foresee : ByteArray := method_16_code
def yL_foresee : MethodName := ⟨RL, "foresee", "(LHayThieves;II[J)I"⟩
abbrev cL_advise : ByteArray := method_17_code
def yL_advise : MethodName := ⟨RL, "advise", "(LHayThieves;I[J)I"⟩
abbrev cL_law : ByteArray := code
def yL_law : MethodName := ⟨RL, "law", "([I)Z"⟩
abbrev vwCl : List vw_C := [(RX0, TX0, 2), (RX1, TX1, 12), (RX2, TX2, 7), (RX3, TX3, 10), (RX4, TX4, 2), (RX5, TX5, 26), (RX6, TX6, 10)]
end
section
theorem dX0_init_0 : decode cX0_init 0 = .ok (.aload_n 0, 1) := by decide +kernel
theorem dX0_init_1 : decode cX0_init 1 = .ok (.invokespecial 3, 3) := by decide +kernel
theorem dX0_init_4 : decode cX0_init 4 = .ok (.aload_n 0, 1) := by decide +kernel
theorem dX0_init_5 : decode cX0_init 5 = .ok (.bipush 8, 2) := by decide +kernel
theorem dX0_init_7 : decode cX0_init 7 = .ok (.newarray .int, 2) := by decide +kernel
theorem dX0_init_9 : decode cX0_init 9 = .ok (.putfield 9, 3) := by decide +kernel
theorem dX0_init_12 : decode cX0_init 12 = .ok (.aload_n 0, 1) := by decide +kernel
theorem dX0_init_13 : decode cX0_init 13 = .ok (.iconst 0, 1) := by decide +kernel
theorem dX0_init_14 : decode cX0_init 14 = .ok (.putfield 15, 3) := by decide +kernel
theorem dX0_init_17 : decode cX0_init 17 = .ok (.return_, 1) := by decide +kernel
theorem dX0_heapAt_0 : decode cX0_heapAt 0 = .ok (.iload_n 1, 1) := by decide +kernel
theorem dX0_heapAt_1 : decode cX0_heapAt 1 = .ok (.ifCond .lt 11, 3) := by decide +kernel
theorem dX0_heapAt_4 : decode cX0_heapAt 4 = .ok (.iload_n 1, 1) := by decide +kernel
theorem dX0_heapAt_5 : decode cX0_heapAt 5 = .ok (.aload_n 0, 1) := by decide +kernel
theorem dX0_heapAt_6 : decode cX0_heapAt 6 = .ok (.getfield 15, 3) := by decide +kernel
theorem dX0_heapAt_9 : decode cX0_heapAt 9 = .ok (.if_icmp .lt 7, 3) := by decide +kernel
theorem dX0_heapAt_12 : decode cX0_heapAt 12 = .ok (.iconst (-1), 1) := by decide +kernel
theorem dX0_heapAt_13 : decode cX0_heapAt 13 = .ok (.goto 16, 3) := by decide +kernel
theorem dX0_heapAt_16 : decode cX0_heapAt 16 = .ok (.aload_n 0, 1) := by decide +kernel
theorem dX0_heapAt_17 : decode cX0_heapAt 17 = .ok (.getfield 9, 3) := by decide +kernel
theorem dX0_heapAt_20 : decode cX0_heapAt 20 = .ok (.aload_n 0, 1) := by decide +kernel
theorem dX0_heapAt_21 : decode cX0_heapAt 21 = .ok (.getfield 15, 3) := by decide +kernel
theorem dX0_heapAt_24 : decode cX0_heapAt 24 = .ok (.iconst 1, 1) := by decide +kernel
theorem dX0_heapAt_25 : decode cX0_heapAt 25 = .ok (.isub, 1) := by decide +kernel
theorem dX0_heapAt_26 : decode cX0_heapAt 26 = .ok (.iload_n 1, 1) := by decide +kernel
theorem dX0_heapAt_27 : decode cX0_heapAt 27 = .ok (.isub, 1) := by decide +kernel
theorem dX0_heapAt_28 : decode cX0_heapAt 28 = .ok (.iaload, 1) := by decide +kernel
theorem dX0_heapAt_29 : decode cX0_heapAt 29 = .ok (.ireturn, 1) := by decide +kernel
theorem dX0_farHeap_0 : decode cX0_farHeap 0 = .ok (.aload_n 0, 1) := by decide +kernel
theorem dX0_farHeap_1 : decode cX0_farHeap 1 = .ok (.getfield 15, 3) := by decide +kernel
theorem dX0_farHeap_4 : decode cX0_farHeap 4 = .ok (.ifCond .le 12, 3) := by decide +kernel
theorem dX0_farHeap_7 : decode cX0_farHeap 7 = .ok (.aload_n 0, 1) := by decide +kernel
theorem dX0_farHeap_8 : decode cX0_farHeap 8 = .ok (.getfield 9, 3) := by decide +kernel
theorem dX0_farHeap_11 : decode cX0_farHeap 11 = .ok (.iconst 0, 1) := by decide +kernel
theorem dX0_farHeap_12 : decode cX0_farHeap 12 = .ok (.iaload, 1) := by decide +kernel
theorem dX0_farHeap_13 : decode cX0_farHeap 13 = .ok (.goto 4, 3) := by decide +kernel
theorem dX0_farHeap_16 : decode cX0_farHeap 16 = .ok (.iconst (-1), 1) := by decide +kernel
theorem dX0_farHeap_17 : decode cX0_farHeap 17 = .ok (.ireturn, 1) := by decide +kernel
theorem dX0_hasRoom_0 : decode cX0_hasRoom 0 = .ok (.aload_n 0, 1) := by decide +kernel
theorem dX0_hasRoom_1 : decode cX0_hasRoom 1 = .ok (.getfield 15, 3) := by decide +kernel
theorem dX0_hasRoom_4 : decode cX0_hasRoom 4 = .ok (.aload_n 0, 1) := by decide +kernel
theorem dX0_hasRoom_5 : decode cX0_hasRoom 5 = .ok (.getfield 9, 3) := by decide +kernel
theorem dX0_hasRoom_8 : decode cX0_hasRoom 8 = .ok (.arraylength, 1) := by decide +kernel
theorem dX0_hasRoom_9 : decode cX0_hasRoom 9 = .ok (.if_icmp .ge 7, 3) := by decide +kernel
theorem dX0_hasRoom_12 : decode cX0_hasRoom 12 = .ok (.iconst 1, 1) := by decide +kernel
theorem dX0_hasRoom_13 : decode cX0_hasRoom 13 = .ok (.goto 4, 3) := by decide +kernel
theorem dX0_hasRoom_16 : decode cX0_hasRoom 16 = .ok (.iconst 0, 1) := by decide +kernel
theorem dX0_hasRoom_17 : decode cX0_hasRoom 17 = .ok (.ireturn, 1) := by decide +kernel
theorem dX0_putNear_0 : decode cX0_putNear 0 = .ok (.aload_n 0, 1) := by decide +kernel
theorem dX0_putNear_1 : decode cX0_putNear 1 = .ok (.invokevirtual 19, 3) := by decide +kernel
theorem dX0_putNear_4 : decode cX0_putNear 4 = .ok (.ifCond .eq 23, 3) := by decide +kernel
theorem dX0_putNear_7 : decode cX0_putNear 7 = .ok (.aload_n 0, 1) := by decide +kernel
theorem dX0_putNear_8 : decode cX0_putNear 8 = .ok (.getfield 9, 3) := by decide +kernel
theorem dX0_putNear_11 : decode cX0_putNear 11 = .ok (.aload_n 0, 1) := by decide +kernel
theorem dX0_putNear_12 : decode cX0_putNear 12 = .ok (.getfield 15, 3) := by decide +kernel
theorem dX0_putNear_15 : decode cX0_putNear 15 = .ok (.iload_n 1, 1) := by decide +kernel
theorem dX0_putNear_16 : decode cX0_putNear 16 = .ok (.iastore, 1) := by decide +kernel
theorem dX0_putNear_17 : decode cX0_putNear 17 = .ok (.aload_n 0, 1) := by decide +kernel
theorem dX0_putNear_18 : decode cX0_putNear 18 = .ok (.dup, 1) := by decide +kernel
theorem dX0_putNear_19 : decode cX0_putNear 19 = .ok (.getfield 15, 3) := by decide +kernel
theorem dX0_putNear_22 : decode cX0_putNear 22 = .ok (.iconst 1, 1) := by decide +kernel
theorem dX0_putNear_23 : decode cX0_putNear 23 = .ok (.iadd, 1) := by decide +kernel
theorem dX0_putNear_24 : decode cX0_putNear 24 = .ok (.putfield 15, 3) := by decide +kernel
theorem dX0_putNear_27 : decode cX0_putNear 27 = .ok (.return_, 1) := by decide +kernel
theorem dX0_takeNear_0 : decode cX0_takeNear 0 = .ok (.aload_n 0, 1) := by decide +kernel
theorem dX0_takeNear_1 : decode cX0_takeNear 1 = .ok (.iconst 0, 1) := by decide +kernel
theorem dX0_takeNear_2 : decode cX0_takeNear 2 = .ok (.invokevirtual 23, 3) := by decide +kernel
theorem dX0_takeNear_5 : decode cX0_takeNear 5 = .ok (.istore_n 1, 1) := by decide +kernel
theorem dX0_takeNear_6 : decode cX0_takeNear 6 = .ok (.aload_n 0, 1) := by decide +kernel
theorem dX0_takeNear_7 : decode cX0_takeNear 7 = .ok (.getfield 15, 3) := by decide +kernel
theorem dX0_takeNear_10 : decode cX0_takeNear 10 = .ok (.ifCond .le 13, 3) := by decide +kernel
theorem dX0_takeNear_13 : decode cX0_takeNear 13 = .ok (.aload_n 0, 1) := by decide +kernel
theorem dX0_takeNear_14 : decode cX0_takeNear 14 = .ok (.dup, 1) := by decide +kernel
theorem dX0_takeNear_15 : decode cX0_takeNear 15 = .ok (.getfield 15, 3) := by decide +kernel
theorem dX0_takeNear_18 : decode cX0_takeNear 18 = .ok (.iconst 1, 1) := by decide +kernel
theorem dX0_takeNear_19 : decode cX0_takeNear 19 = .ok (.isub, 1) := by decide +kernel
theorem dX0_takeNear_20 : decode cX0_takeNear 20 = .ok (.putfield 15, 3) := by decide +kernel
theorem dX0_takeNear_23 : decode cX0_takeNear 23 = .ok (.iload_n 1, 1) := by decide +kernel
theorem dX0_takeNear_24 : decode cX0_takeNear 24 = .ok (.ireturn, 1) := by decide +kernel
theorem dX0_takeFar_0 : decode cX0_takeFar 0 = .ok (.aload_n 0, 1) := by decide +kernel
theorem dX0_takeFar_1 : decode cX0_takeFar 1 = .ok (.invokevirtual 27, 3) := by decide +kernel
theorem dX0_takeFar_4 : decode cX0_takeFar 4 = .ok (.istore_n 1, 1) := by decide +kernel
theorem dX0_takeFar_5 : decode cX0_takeFar 5 = .ok (.aload_n 0, 1) := by decide +kernel
theorem dX0_takeFar_6 : decode cX0_takeFar 6 = .ok (.getfield 15, 3) := by decide +kernel
theorem dX0_takeFar_9 : decode cX0_takeFar 9 = .ok (.ifCond .le 30, 3) := by decide +kernel
theorem dX0_takeFar_12 : decode cX0_takeFar 12 = .ok (.aload_n 0, 1) := by decide +kernel
theorem dX0_takeFar_13 : decode cX0_takeFar 13 = .ok (.dup, 1) := by decide +kernel
theorem dX0_takeFar_14 : decode cX0_takeFar 14 = .ok (.getfield 15, 3) := by decide +kernel
theorem dX0_takeFar_17 : decode cX0_takeFar 17 = .ok (.iconst 1, 1) := by decide +kernel
theorem dX0_takeFar_18 : decode cX0_takeFar 18 = .ok (.isub, 1) := by decide +kernel
theorem dX0_takeFar_19 : decode cX0_takeFar 19 = .ok (.putfield 15, 3) := by decide +kernel
theorem dX0_takeFar_22 : decode cX0_takeFar 22 = .ok (.aload_n 0, 1) := by decide +kernel
theorem dX0_takeFar_23 : decode cX0_takeFar 23 = .ok (.getfield 9, 3) := by decide +kernel
theorem dX0_takeFar_26 : decode cX0_takeFar 26 = .ok (.iconst 1, 1) := by decide +kernel
theorem dX0_takeFar_27 : decode cX0_takeFar 27 = .ok (.aload_n 0, 1) := by decide +kernel
theorem dX0_takeFar_28 : decode cX0_takeFar 28 = .ok (.getfield 9, 3) := by decide +kernel
theorem dX0_takeFar_31 : decode cX0_takeFar 31 = .ok (.iconst 0, 1) := by decide +kernel
theorem dX0_takeFar_32 : decode cX0_takeFar 32 = .ok (.aload_n 0, 1) := by decide +kernel
theorem dX0_takeFar_33 : decode cX0_takeFar 33 = .ok (.getfield 15, 3) := by decide +kernel
theorem dX0_takeFar_36 : decode cX0_takeFar 36 = .ok (.invokestatic 31, 3) := by decide +kernel
theorem dX0_takeFar_39 : decode cX0_takeFar 39 = .ok (.iload_n 1, 1) := by decide +kernel
theorem dX0_takeFar_40 : decode cX0_takeFar 40 = .ok (.ireturn, 1) := by decide +kernel
theorem dX0_copyFrom_0 : decode cX0_copyFrom 0 = .ok (.aload_n 1, 1) := by decide +kernel
theorem dX0_copyFrom_1 : decode cX0_copyFrom 1 = .ok (.getfield 9, 3) := by decide +kernel
theorem dX0_copyFrom_4 : decode cX0_copyFrom 4 = .ok (.iconst 0, 1) := by decide +kernel
theorem dX0_copyFrom_5 : decode cX0_copyFrom 5 = .ok (.aload_n 0, 1) := by decide +kernel
theorem dX0_copyFrom_6 : decode cX0_copyFrom 6 = .ok (.getfield 9, 3) := by decide +kernel
theorem dX0_copyFrom_9 : decode cX0_copyFrom 9 = .ok (.iconst 0, 1) := by decide +kernel
theorem dX0_copyFrom_10 : decode cX0_copyFrom 10 = .ok (.aload_n 0, 1) := by decide +kernel
theorem dX0_copyFrom_11 : decode cX0_copyFrom 11 = .ok (.getfield 9, 3) := by decide +kernel
theorem dX0_copyFrom_14 : decode cX0_copyFrom 14 = .ok (.arraylength, 1) := by decide +kernel
theorem dX0_copyFrom_15 : decode cX0_copyFrom 15 = .ok (.invokestatic 31, 3) := by decide +kernel
theorem dX0_copyFrom_18 : decode cX0_copyFrom 18 = .ok (.aload_n 0, 1) := by decide +kernel
theorem dX0_copyFrom_19 : decode cX0_copyFrom 19 = .ok (.aload_n 1, 1) := by decide +kernel
theorem dX0_copyFrom_20 : decode cX0_copyFrom 20 = .ok (.getfield 15, 3) := by decide +kernel
theorem dX0_copyFrom_23 : decode cX0_copyFrom 23 = .ok (.putfield 15, 3) := by decide +kernel
theorem dX0_copyFrom_26 : decode cX0_copyFrom 26 = .ok (.return_, 1) := by decide +kernel
theorem dX1_init_0 : decode cX1_init 0 = .ok (.aload_n 0, 1) := by decide +kernel
theorem dX1_init_1 : decode cX1_init 1 = .ok (.invokespecial 3, 3) := by decide +kernel
theorem dX1_init_4 : decode cX1_init 4 = .ok (.aload_n 0, 1) := by decide +kernel
theorem dX1_init_5 : decode cX1_init 5 = .ok (.iconst 0, 1) := by decide +kernel
theorem dX1_init_6 : decode cX1_init 6 = .ok (.putfield 9, 3) := by decide +kernel
theorem dX1_init_9 : decode cX1_init 9 = .ok (.aload_n 0, 1) := by decide +kernel
theorem dX1_init_10 : decode cX1_init 10 = .ok (.iconst 0, 1) := by decide +kernel
theorem dX1_init_11 : decode cX1_init 11 = .ok (.putfield 15, 3) := by decide +kernel
theorem dX1_init_14 : decode cX1_init 14 = .ok (.aload_n 0, 1) := by decide +kernel
theorem dX1_init_15 : decode cX1_init 15 = .ok (.new 18, 3) := by decide +kernel
theorem dX1_init_18 : decode cX1_init 18 = .ok (.dup, 1) := by decide +kernel
theorem dX1_init_19 : decode cX1_init 19 = .ok (.invokespecial 20, 3) := by decide +kernel
theorem dX1_init_22 : decode cX1_init 22 = .ok (.putfield 21, 3) := by decide +kernel
theorem dX1_init_25 : decode cX1_init 25 = .ok (.aload_n 0, 1) := by decide +kernel
theorem dX1_init_26 : decode cX1_init 26 = .ok (.iconst (-1), 1) := by decide +kernel
theorem dX1_init_27 : decode cX1_init 27 = .ok (.putfield 25, 3) := by decide +kernel
theorem dX1_init_30 : decode cX1_init 30 = .ok (.aload_n 0, 1) := by decide +kernel
theorem dX1_init_31 : decode cX1_init 31 = .ok (.iconst 0, 1) := by decide +kernel
theorem dX1_init_32 : decode cX1_init 32 = .ok (.putfield 28, 3) := by decide +kernel
theorem dX1_init_35 : decode cX1_init 35 = .ok (.aload_n 0, 1) := by decide +kernel
theorem dX1_init_36 : decode cX1_init 36 = .ok (.iconst (-1), 1) := by decide +kernel
theorem dX1_init_37 : decode cX1_init 37 = .ok (.putfield 31, 3) := by decide +kernel
theorem dX1_init_40 : decode cX1_init 40 = .ok (.aload_n 0, 1) := by decide +kernel
theorem dX1_init_41 : decode cX1_init 41 = .ok (.iconst 0, 1) := by decide +kernel
theorem dX1_init_42 : decode cX1_init 42 = .ok (.putfield 34, 3) := by decide +kernel
theorem dX1_init_45 : decode cX1_init 45 = .ok (.aload_n 0, 1) := by decide +kernel
theorem dX1_init_46 : decode cX1_init 46 = .ok (.iconst 0, 1) := by decide +kernel
theorem dX1_init_47 : decode cX1_init 47 = .ok (.putfield 38, 3) := by decide +kernel
theorem dX1_init_50 : decode cX1_init 50 = .ok (.aload_n 0, 1) := by decide +kernel
theorem dX1_init_51 : decode cX1_init 51 = .ok (.iconst 0, 1) := by decide +kernel
theorem dX1_init_52 : decode cX1_init 52 = .ok (.putfield 41, 3) := by decide +kernel
theorem dX1_init_55 : decode cX1_init 55 = .ok (.aload_n 0, 1) := by decide +kernel
theorem dX1_init_56 : decode cX1_init 56 = .ok (.iconst 0, 1) := by decide +kernel
theorem dX1_init_57 : decode cX1_init 57 = .ok (.putfield 44, 3) := by decide +kernel
theorem dX1_init_60 : decode cX1_init 60 = .ok (.aload_n 0, 1) := by decide +kernel
theorem dX1_init_61 : decode cX1_init 61 = .ok (.iconst 0, 1) := by decide +kernel
theorem dX1_init_62 : decode cX1_init 62 = .ok (.putfield 47, 3) := by decide +kernel
theorem dX1_init_65 : decode cX1_init 65 = .ok (.aload_n 0, 1) := by decide +kernel
theorem dX1_init_66 : decode cX1_init 66 = .ok (.iload_n 1, 1) := by decide +kernel
theorem dX1_init_67 : decode cX1_init 67 = .ok (.putfield 50, 3) := by decide +kernel
theorem dX1_init_70 : decode cX1_init 70 = .ok (.return_, 1) := by decide +kernel
theorem dX1_tell_0 : decode cX1_tell 0 = .ok (.iload_n 1, 1) := by decide +kernel
theorem dX1_tell_1 : decode cX1_tell 1 = .ok (.tableswitch 90 0 7 #[47, 52, 57, 65, 70, 75, 80, 85], 47) := by decide +kernel
theorem dX1_tell_48 : decode cX1_tell 48 = .ok (.aload_n 0, 1) := by decide +kernel
theorem dX1_tell_49 : decode cX1_tell 49 = .ok (.getfield 9, 3) := by decide +kernel
theorem dX1_tell_52 : decode cX1_tell 52 = .ok (.ireturn, 1) := by decide +kernel
theorem dX1_tell_53 : decode cX1_tell 53 = .ok (.aload_n 0, 1) := by decide +kernel
theorem dX1_tell_54 : decode cX1_tell 54 = .ok (.getfield 15, 3) := by decide +kernel
theorem dX1_tell_57 : decode cX1_tell 57 = .ok (.ireturn, 1) := by decide +kernel
theorem dX1_tell_58 : decode cX1_tell 58 = .ok (.aload_n 0, 1) := by decide +kernel
theorem dX1_tell_59 : decode cX1_tell 59 = .ok (.getfield 21, 3) := by decide +kernel
theorem dX1_tell_62 : decode cX1_tell 62 = .ok (.getfield 53, 3) := by decide +kernel
theorem dX1_tell_65 : decode cX1_tell 65 = .ok (.ireturn, 1) := by decide +kernel
theorem dX1_tell_66 : decode cX1_tell 66 = .ok (.aload_n 0, 1) := by decide +kernel
theorem dX1_tell_67 : decode cX1_tell 67 = .ok (.invokevirtual 56, 3) := by decide +kernel
theorem dX1_tell_70 : decode cX1_tell 70 = .ok (.ireturn, 1) := by decide +kernel
theorem dX1_tell_71 : decode cX1_tell 71 = .ok (.aload_n 0, 1) := by decide +kernel
theorem dX1_tell_72 : decode cX1_tell 72 = .ok (.getfield 28, 3) := by decide +kernel
theorem dX1_tell_75 : decode cX1_tell 75 = .ok (.ireturn, 1) := by decide +kernel
theorem dX1_tell_76 : decode cX1_tell 76 = .ok (.aload_n 0, 1) := by decide +kernel
theorem dX1_tell_77 : decode cX1_tell 77 = .ok (.getfield 44, 3) := by decide +kernel
theorem dX1_tell_80 : decode cX1_tell 80 = .ok (.ireturn, 1) := by decide +kernel
theorem dX1_tell_81 : decode cX1_tell 81 = .ok (.aload_n 0, 1) := by decide +kernel
theorem dX1_tell_82 : decode cX1_tell 82 = .ok (.getfield 47, 3) := by decide +kernel
theorem dX1_tell_85 : decode cX1_tell 85 = .ok (.ireturn, 1) := by decide +kernel
theorem dX1_tell_86 : decode cX1_tell 86 = .ok (.aload_n 0, 1) := by decide +kernel
theorem dX1_tell_87 : decode cX1_tell 87 = .ok (.getfield 41, 3) := by decide +kernel
theorem dX1_tell_90 : decode cX1_tell 90 = .ok (.ireturn, 1) := by decide +kernel
theorem dX1_tell_91 : decode cX1_tell 91 = .ok (.aload_n 0, 1) := by decide +kernel
theorem dX1_tell_92 : decode cX1_tell 92 = .ok (.invokevirtual 60, 3) := by decide +kernel
theorem dX1_tell_95 : decode cX1_tell 95 = .ok (.ireturn, 1) := by decide +kernel
theorem dX1_doing_0 : decode cX1_doing 0 = .ok (.aload_n 0, 1) := by decide +kernel
theorem dX1_doing_1 : decode cX1_doing 1 = .ok (.getfield 34, 3) := by decide +kernel
theorem dX1_doing_4 : decode cX1_doing 4 = .ok (.ifCond .eq 5, 3) := by decide +kernel
theorem dX1_doing_7 : decode cX1_doing 7 = .ok (.iconst 3, 1) := by decide +kernel
theorem dX1_doing_8 : decode cX1_doing 8 = .ok (.ireturn, 1) := by decide +kernel
theorem dX1_doing_9 : decode cX1_doing 9 = .ok (.aload_n 0, 1) := by decide +kernel
theorem dX1_doing_10 : decode cX1_doing 10 = .ok (.getfield 31, 3) := by decide +kernel
theorem dX1_doing_13 : decode cX1_doing 13 = .ok (.iconst (-1), 1) := by decide +kernel
theorem dX1_doing_14 : decode cX1_doing 14 = .ok (.if_icmp .eq 5, 3) := by decide +kernel
theorem dX1_doing_17 : decode cX1_doing 17 = .ok (.iconst 2, 1) := by decide +kernel
theorem dX1_doing_18 : decode cX1_doing 18 = .ok (.ireturn, 1) := by decide +kernel
theorem dX1_doing_19 : decode cX1_doing 19 = .ok (.aload_n 0, 1) := by decide +kernel
theorem dX1_doing_20 : decode cX1_doing 20 = .ok (.getfield 25, 3) := by decide +kernel
theorem dX1_doing_23 : decode cX1_doing 23 = .ok (.iconst (-1), 1) := by decide +kernel
theorem dX1_doing_24 : decode cX1_doing 24 = .ok (.if_icmp .eq 7, 3) := by decide +kernel
theorem dX1_doing_27 : decode cX1_doing 27 = .ok (.iconst 1, 1) := by decide +kernel
theorem dX1_doing_28 : decode cX1_doing 28 = .ok (.goto 4, 3) := by decide +kernel
theorem dX1_doing_31 : decode cX1_doing 31 = .ok (.iconst 0, 1) := by decide +kernel
theorem dX1_doing_32 : decode cX1_doing 32 = .ok (.ireturn, 1) := by decide +kernel
theorem dX1_loadAtWork_0 : decode cX1_loadAtWork 0 = .ok (.aload_n 0, 1) := by decide +kernel
theorem dX1_loadAtWork_1 : decode cX1_loadAtWork 1 = .ok (.getfield 25, 3) := by decide +kernel
theorem dX1_loadAtWork_4 : decode cX1_loadAtWork 4 = .ok (.iconst (-1), 1) := by decide +kernel
theorem dX1_loadAtWork_5 : decode cX1_loadAtWork 5 = .ok (.if_icmp .eq 10, 3) := by decide +kernel
theorem dX1_loadAtWork_8 : decode cX1_loadAtWork 8 = .ok (.aload_n 0, 1) := by decide +kernel
theorem dX1_loadAtWork_9 : decode cX1_loadAtWork 9 = .ok (.getfield 25, 3) := by decide +kernel
theorem dX1_loadAtWork_12 : decode cX1_loadAtWork 12 = .ok (.goto 7, 3) := by decide +kernel
theorem dX1_loadAtWork_15 : decode cX1_loadAtWork 15 = .ok (.aload_n 0, 1) := by decide +kernel
theorem dX1_loadAtWork_16 : decode cX1_loadAtWork 16 = .ok (.getfield 31, 3) := by decide +kernel
theorem dX1_loadAtWork_19 : decode cX1_loadAtWork 19 = .ok (.istore_n 1, 1) := by decide +kernel
theorem dX1_loadAtWork_20 : decode cX1_loadAtWork 20 = .ok (.iload_n 1, 1) := by decide +kernel
theorem dX1_loadAtWork_21 : decode cX1_loadAtWork 21 = .ok (.iconst (-1), 1) := by decide +kernel
theorem dX1_loadAtWork_22 : decode cX1_loadAtWork 22 = .ok (.if_icmp .ne 7, 3) := by decide +kernel
theorem dX1_loadAtWork_25 : decode cX1_loadAtWork 25 = .ok (.iconst (-1), 1) := by decide +kernel
theorem dX1_loadAtWork_26 : decode cX1_loadAtWork 26 = .ok (.goto 7, 3) := by decide +kernel
theorem dX1_loadAtWork_29 : decode cX1_loadAtWork 29 = .ok (.iload_n 1, 1) := by decide +kernel
theorem dX1_loadAtWork_30 : decode cX1_loadAtWork 30 = .ok (.bipush 32, 2) := by decide +kernel
theorem dX1_loadAtWork_32 : decode cX1_loadAtWork 32 = .ok (.idiv, 1) := by decide +kernel
theorem dX1_loadAtWork_33 : decode cX1_loadAtWork 33 = .ok (.ireturn, 1) := by decide +kernel
theorem dX1_take_0 : decode cX1_take 0 = .ok (.aload_n 0, 1) := by decide +kernel
theorem dX1_take_1 : decode cX1_take 1 = .ok (.iload_n 1, 1) := by decide +kernel
theorem dX1_take_2 : decode cX1_take 2 = .ok (.putfield 25, 3) := by decide +kernel
theorem dX1_take_5 : decode cX1_take 5 = .ok (.aload_n 0, 1) := by decide +kernel
theorem dX1_take_6 : decode cX1_take 6 = .ok (.iload_n 2, 1) := by decide +kernel
theorem dX1_take_7 : decode cX1_take 7 = .ok (.putfield 28, 3) := by decide +kernel
theorem dX1_take_10 : decode cX1_take 10 = .ok (.return_, 1) := by decide +kernel
theorem dX1_beIdle_0 : decode cX1_beIdle 0 = .ok (.aload_n 0, 1) := by decide +kernel
theorem dX1_beIdle_1 : decode cX1_beIdle 1 = .ok (.dup, 1) := by decide +kernel
theorem dX1_beIdle_2 : decode cX1_beIdle 2 = .ok (.getfield 41, 3) := by decide +kernel
theorem dX1_beIdle_5 : decode cX1_beIdle 5 = .ok (.iconst 1, 1) := by decide +kernel
theorem dX1_beIdle_6 : decode cX1_beIdle 6 = .ok (.iadd, 1) := by decide +kernel
theorem dX1_beIdle_7 : decode cX1_beIdle 7 = .ok (.putfield 41, 3) := by decide +kernel
theorem dX1_beIdle_10 : decode cX1_beIdle 10 = .ok (.aload_n 0, 1) := by decide +kernel
theorem dX1_beIdle_11 : decode cX1_beIdle 11 = .ok (.dup, 1) := by decide +kernel
theorem dX1_beIdle_12 : decode cX1_beIdle 12 = .ok (.getfield 38, 3) := by decide +kernel
theorem dX1_beIdle_15 : decode cX1_beIdle 15 = .ok (.iconst 1, 1) := by decide +kernel
theorem dX1_beIdle_16 : decode cX1_beIdle 16 = .ok (.iadd, 1) := by decide +kernel
theorem dX1_beIdle_17 : decode cX1_beIdle 17 = .ok (.putfield 38, 3) := by decide +kernel
theorem dX1_beIdle_20 : decode cX1_beIdle 20 = .ok (.aload_n 0, 1) := by decide +kernel
theorem dX1_beIdle_21 : decode cX1_beIdle 21 = .ok (.getfield 38, 3) := by decide +kernel
theorem dX1_beIdle_24 : decode cX1_beIdle 24 = .ok (.iconst 3, 1) := by decide +kernel
theorem dX1_beIdle_25 : decode cX1_beIdle 25 = .ok (.if_icmp .lt 13, 3) := by decide +kernel
theorem dX1_beIdle_28 : decode cX1_beIdle 28 = .ok (.aload_n 0, 1) := by decide +kernel
theorem dX1_beIdle_29 : decode cX1_beIdle 29 = .ok (.iconst 1, 1) := by decide +kernel
theorem dX1_beIdle_30 : decode cX1_beIdle 30 = .ok (.putfield 34, 3) := by decide +kernel
theorem dX1_beIdle_33 : decode cX1_beIdle 33 = .ok (.aload_n 0, 1) := by decide +kernel
theorem dX1_beIdle_34 : decode cX1_beIdle 34 = .ok (.iconst 0, 1) := by decide +kernel
theorem dX1_beIdle_35 : decode cX1_beIdle 35 = .ok (.putfield 38, 3) := by decide +kernel
theorem dX1_beIdle_38 : decode cX1_beIdle 38 = .ok (.return_, 1) := by decide +kernel
theorem dX1_copyFrom_0 : decode cX1_copyFrom 0 = .ok (.aload_n 0, 1) := by decide +kernel
theorem dX1_copyFrom_1 : decode cX1_copyFrom 1 = .ok (.aload_n 1, 1) := by decide +kernel
theorem dX1_copyFrom_2 : decode cX1_copyFrom 2 = .ok (.getfield 9, 3) := by decide +kernel
theorem dX1_copyFrom_5 : decode cX1_copyFrom 5 = .ok (.putfield 9, 3) := by decide +kernel
theorem dX1_copyFrom_8 : decode cX1_copyFrom 8 = .ok (.aload_n 0, 1) := by decide +kernel
theorem dX1_copyFrom_9 : decode cX1_copyFrom 9 = .ok (.aload_n 1, 1) := by decide +kernel
theorem dX1_copyFrom_10 : decode cX1_copyFrom 10 = .ok (.getfield 15, 3) := by decide +kernel
theorem dX1_copyFrom_13 : decode cX1_copyFrom 13 = .ok (.putfield 15, 3) := by decide +kernel
theorem dX1_copyFrom_16 : decode cX1_copyFrom 16 = .ok (.aload_n 0, 1) := by decide +kernel
theorem dX1_copyFrom_17 : decode cX1_copyFrom 17 = .ok (.getfield 21, 3) := by decide +kernel
theorem dX1_copyFrom_20 : decode cX1_copyFrom 20 = .ok (.aload_n 1, 1) := by decide +kernel
theorem dX1_copyFrom_21 : decode cX1_copyFrom 21 = .ok (.getfield 21, 3) := by decide +kernel
theorem dX1_copyFrom_24 : decode cX1_copyFrom 24 = .ok (.invokevirtual 63, 3) := by decide +kernel
theorem dX1_copyFrom_27 : decode cX1_copyFrom 27 = .ok (.aload_n 0, 1) := by decide +kernel
theorem dX1_copyFrom_28 : decode cX1_copyFrom 28 = .ok (.aload_n 1, 1) := by decide +kernel
theorem dX1_copyFrom_29 : decode cX1_copyFrom 29 = .ok (.getfield 25, 3) := by decide +kernel
theorem dX1_copyFrom_32 : decode cX1_copyFrom 32 = .ok (.putfield 25, 3) := by decide +kernel
theorem dX1_copyFrom_35 : decode cX1_copyFrom 35 = .ok (.aload_n 0, 1) := by decide +kernel
theorem dX1_copyFrom_36 : decode cX1_copyFrom 36 = .ok (.aload_n 1, 1) := by decide +kernel
theorem dX1_copyFrom_37 : decode cX1_copyFrom 37 = .ok (.getfield 28, 3) := by decide +kernel
theorem dX1_copyFrom_40 : decode cX1_copyFrom 40 = .ok (.putfield 28, 3) := by decide +kernel
theorem dX1_copyFrom_43 : decode cX1_copyFrom 43 = .ok (.aload_n 0, 1) := by decide +kernel
theorem dX1_copyFrom_44 : decode cX1_copyFrom 44 = .ok (.aload_n 1, 1) := by decide +kernel
theorem dX1_copyFrom_45 : decode cX1_copyFrom 45 = .ok (.getfield 31, 3) := by decide +kernel
theorem dX1_copyFrom_48 : decode cX1_copyFrom 48 = .ok (.putfield 31, 3) := by decide +kernel
theorem dX1_copyFrom_51 : decode cX1_copyFrom 51 = .ok (.aload_n 0, 1) := by decide +kernel
theorem dX1_copyFrom_52 : decode cX1_copyFrom 52 = .ok (.aload_n 1, 1) := by decide +kernel
theorem dX1_copyFrom_53 : decode cX1_copyFrom 53 = .ok (.getfield 34, 3) := by decide +kernel
theorem dX1_copyFrom_56 : decode cX1_copyFrom 56 = .ok (.putfield 34, 3) := by decide +kernel
theorem dX1_copyFrom_59 : decode cX1_copyFrom 59 = .ok (.aload_n 0, 1) := by decide +kernel
theorem dX1_copyFrom_60 : decode cX1_copyFrom 60 = .ok (.aload_n 1, 1) := by decide +kernel
theorem dX1_copyFrom_61 : decode cX1_copyFrom 61 = .ok (.getfield 38, 3) := by decide +kernel
theorem dX1_copyFrom_64 : decode cX1_copyFrom 64 = .ok (.putfield 38, 3) := by decide +kernel
theorem dX1_copyFrom_67 : decode cX1_copyFrom 67 = .ok (.aload_n 0, 1) := by decide +kernel
theorem dX1_copyFrom_68 : decode cX1_copyFrom 68 = .ok (.aload_n 1, 1) := by decide +kernel
theorem dX1_copyFrom_69 : decode cX1_copyFrom 69 = .ok (.getfield 41, 3) := by decide +kernel
theorem dX1_copyFrom_72 : decode cX1_copyFrom 72 = .ok (.putfield 41, 3) := by decide +kernel
theorem dX1_copyFrom_75 : decode cX1_copyFrom 75 = .ok (.aload_n 0, 1) := by decide +kernel
theorem dX1_copyFrom_76 : decode cX1_copyFrom 76 = .ok (.aload_n 1, 1) := by decide +kernel
theorem dX1_copyFrom_77 : decode cX1_copyFrom 77 = .ok (.getfield 44, 3) := by decide +kernel
theorem dX1_copyFrom_80 : decode cX1_copyFrom 80 = .ok (.putfield 44, 3) := by decide +kernel
theorem dX1_copyFrom_83 : decode cX1_copyFrom 83 = .ok (.aload_n 0, 1) := by decide +kernel
theorem dX1_copyFrom_84 : decode cX1_copyFrom 84 = .ok (.aload_n 1, 1) := by decide +kernel
theorem dX1_copyFrom_85 : decode cX1_copyFrom 85 = .ok (.getfield 47, 3) := by decide +kernel
theorem dX1_copyFrom_88 : decode cX1_copyFrom 88 = .ok (.putfield 47, 3) := by decide +kernel
theorem dX1_copyFrom_91 : decode cX1_copyFrom 91 = .ok (.return_, 1) := by decide +kernel
theorem dX2_init_0 : decode cX2_init 0 = .ok (.aload_n 0, 1) := by decide +kernel
theorem dX2_init_1 : decode cX2_init 1 = .ok (.invokespecial 3, 3) := by decide +kernel
theorem dX2_init_4 : decode cX2_init 4 = .ok (.aload_n 0, 1) := by decide +kernel
theorem dX2_init_5 : decode cX2_init 5 = .ok (.iconst 0, 1) := by decide +kernel
theorem dX2_init_6 : decode cX2_init 6 = .ok (.putfield 9, 3) := by decide +kernel
theorem dX2_init_9 : decode cX2_init 9 = .ok (.aload_n 0, 1) := by decide +kernel
theorem dX2_init_10 : decode cX2_init 10 = .ok (.iconst 0, 1) := by decide +kernel
theorem dX2_init_11 : decode cX2_init 11 = .ok (.putfield 15, 3) := by decide +kernel
theorem dX2_init_14 : decode cX2_init 14 = .ok (.aload_n 0, 1) := by decide +kernel
theorem dX2_init_15 : decode cX2_init 15 = .ok (.iconst 0, 1) := by decide +kernel
theorem dX2_init_16 : decode cX2_init 16 = .ok (.putfield 18, 3) := by decide +kernel
theorem dX2_init_19 : decode cX2_init 19 = .ok (.aload_n 0, 1) := by decide +kernel
theorem dX2_init_20 : decode cX2_init 20 = .ok (.iconst (-1), 1) := by decide +kernel
theorem dX2_init_21 : decode cX2_init 21 = .ok (.putfield 21, 3) := by decide +kernel
theorem dX2_init_24 : decode cX2_init 24 = .ok (.aload_n 0, 1) := by decide +kernel
theorem dX2_init_25 : decode cX2_init 25 = .ok (.iconst 1, 1) := by decide +kernel
theorem dX2_init_26 : decode cX2_init 26 = .ok (.putfield 24, 3) := by decide +kernel
theorem dX2_init_29 : decode cX2_init 29 = .ok (.aload_n 0, 1) := by decide +kernel
theorem dX2_init_30 : decode cX2_init 30 = .ok (.iconst 0, 1) := by decide +kernel
theorem dX2_init_31 : decode cX2_init 31 = .ok (.putfield 27, 3) := by decide +kernel
theorem dX2_init_34 : decode cX2_init 34 = .ok (.aload_n 0, 1) := by decide +kernel
theorem dX2_init_35 : decode cX2_init 35 = .ok (.iconst 0, 1) := by decide +kernel
theorem dX2_init_36 : decode cX2_init 36 = .ok (.putfield 30, 3) := by decide +kernel
theorem dX2_init_39 : decode cX2_init 39 = .ok (.return_, 1) := by decide +kernel
theorem dX2_tell_0 : decode cX2_tell 0 = .ok (.iload_n 1, 1) := by decide +kernel
theorem dX2_tell_1 : decode cX2_tell 1 = .ok (.tableswitch 69 0 5 #[39, 44, 49, 54, 59, 64], 39) := by decide +kernel
theorem dX2_tell_40 : decode cX2_tell 40 = .ok (.aload_n 0, 1) := by decide +kernel
theorem dX2_tell_41 : decode cX2_tell 41 = .ok (.getfield 9, 3) := by decide +kernel
theorem dX2_tell_44 : decode cX2_tell 44 = .ok (.ireturn, 1) := by decide +kernel
theorem dX2_tell_45 : decode cX2_tell 45 = .ok (.aload_n 0, 1) := by decide +kernel
theorem dX2_tell_46 : decode cX2_tell 46 = .ok (.getfield 15, 3) := by decide +kernel
theorem dX2_tell_49 : decode cX2_tell 49 = .ok (.ireturn, 1) := by decide +kernel
theorem dX2_tell_50 : decode cX2_tell 50 = .ok (.aload_n 0, 1) := by decide +kernel
theorem dX2_tell_51 : decode cX2_tell 51 = .ok (.getfield 24, 3) := by decide +kernel
theorem dX2_tell_54 : decode cX2_tell 54 = .ok (.ireturn, 1) := by decide +kernel
theorem dX2_tell_55 : decode cX2_tell 55 = .ok (.aload_n 0, 1) := by decide +kernel
theorem dX2_tell_56 : decode cX2_tell 56 = .ok (.getfield 27, 3) := by decide +kernel
theorem dX2_tell_59 : decode cX2_tell 59 = .ok (.ireturn, 1) := by decide +kernel
theorem dX2_tell_60 : decode cX2_tell 60 = .ok (.aload_n 0, 1) := by decide +kernel
theorem dX2_tell_61 : decode cX2_tell 61 = .ok (.getfield 18, 3) := by decide +kernel
theorem dX2_tell_64 : decode cX2_tell 64 = .ok (.ireturn, 1) := by decide +kernel
theorem dX2_tell_65 : decode cX2_tell 65 = .ok (.aload_n 0, 1) := by decide +kernel
theorem dX2_tell_66 : decode cX2_tell 66 = .ok (.getfield 21, 3) := by decide +kernel
theorem dX2_tell_69 : decode cX2_tell 69 = .ok (.ireturn, 1) := by decide +kernel
theorem dX2_tell_70 : decode cX2_tell 70 = .ok (.aload_n 0, 1) := by decide +kernel
theorem dX2_tell_71 : decode cX2_tell 71 = .ok (.getfield 30, 3) := by decide +kernel
theorem dX2_tell_74 : decode cX2_tell 74 = .ok (.ireturn, 1) := by decide +kernel
theorem dX2_copyFrom_0 : decode cX2_copyFrom 0 = .ok (.aload_n 0, 1) := by decide +kernel
theorem dX2_copyFrom_1 : decode cX2_copyFrom 1 = .ok (.aload_n 1, 1) := by decide +kernel
theorem dX2_copyFrom_2 : decode cX2_copyFrom 2 = .ok (.getfield 9, 3) := by decide +kernel
theorem dX2_copyFrom_5 : decode cX2_copyFrom 5 = .ok (.putfield 9, 3) := by decide +kernel
theorem dX2_copyFrom_8 : decode cX2_copyFrom 8 = .ok (.aload_n 0, 1) := by decide +kernel
theorem dX2_copyFrom_9 : decode cX2_copyFrom 9 = .ok (.aload_n 1, 1) := by decide +kernel
theorem dX2_copyFrom_10 : decode cX2_copyFrom 10 = .ok (.getfield 15, 3) := by decide +kernel
theorem dX2_copyFrom_13 : decode cX2_copyFrom 13 = .ok (.putfield 15, 3) := by decide +kernel
theorem dX2_copyFrom_16 : decode cX2_copyFrom 16 = .ok (.aload_n 0, 1) := by decide +kernel
theorem dX2_copyFrom_17 : decode cX2_copyFrom 17 = .ok (.aload_n 1, 1) := by decide +kernel
theorem dX2_copyFrom_18 : decode cX2_copyFrom 18 = .ok (.getfield 18, 3) := by decide +kernel
theorem dX2_copyFrom_21 : decode cX2_copyFrom 21 = .ok (.putfield 18, 3) := by decide +kernel
theorem dX2_copyFrom_24 : decode cX2_copyFrom 24 = .ok (.aload_n 0, 1) := by decide +kernel
theorem dX2_copyFrom_25 : decode cX2_copyFrom 25 = .ok (.aload_n 1, 1) := by decide +kernel
theorem dX2_copyFrom_26 : decode cX2_copyFrom 26 = .ok (.getfield 21, 3) := by decide +kernel
theorem dX2_copyFrom_29 : decode cX2_copyFrom 29 = .ok (.putfield 21, 3) := by decide +kernel
theorem dX2_copyFrom_32 : decode cX2_copyFrom 32 = .ok (.aload_n 0, 1) := by decide +kernel
theorem dX2_copyFrom_33 : decode cX2_copyFrom 33 = .ok (.aload_n 1, 1) := by decide +kernel
theorem dX2_copyFrom_34 : decode cX2_copyFrom 34 = .ok (.getfield 24, 3) := by decide +kernel
theorem dX2_copyFrom_37 : decode cX2_copyFrom 37 = .ok (.putfield 24, 3) := by decide +kernel
theorem dX2_copyFrom_40 : decode cX2_copyFrom 40 = .ok (.aload_n 0, 1) := by decide +kernel
theorem dX2_copyFrom_41 : decode cX2_copyFrom 41 = .ok (.aload_n 1, 1) := by decide +kernel
theorem dX2_copyFrom_42 : decode cX2_copyFrom 42 = .ok (.getfield 27, 3) := by decide +kernel
theorem dX2_copyFrom_45 : decode cX2_copyFrom 45 = .ok (.putfield 27, 3) := by decide +kernel
theorem dX2_copyFrom_48 : decode cX2_copyFrom 48 = .ok (.aload_n 0, 1) := by decide +kernel
theorem dX2_copyFrom_49 : decode cX2_copyFrom 49 = .ok (.aload_n 1, 1) := by decide +kernel
theorem dX2_copyFrom_50 : decode cX2_copyFrom 50 = .ok (.getfield 30, 3) := by decide +kernel
theorem dX2_copyFrom_53 : decode cX2_copyFrom 53 = .ok (.putfield 30, 3) := by decide +kernel
theorem dX2_copyFrom_56 : decode cX2_copyFrom 56 = .ok (.return_, 1) := by decide +kernel
theorem dX3_init_0 : decode cX3_init 0 = .ok (.aload_n 0, 1) := by decide +kernel
theorem dX3_init_1 : decode cX3_init 1 = .ok (.invokespecial 3, 3) := by decide +kernel
theorem dX3_init_4 : decode cX3_init 4 = .ok (.aload_n 0, 1) := by decide +kernel
theorem dX3_init_5 : decode cX3_init 5 = .ok (.bipush 6, 2) := by decide +kernel
theorem dX3_init_7 : decode cX3_init 7 = .ok (.anewarray 9, 3) := by decide +kernel
theorem dX3_init_10 : decode cX3_init 10 = .ok (.putfield 11, 3) := by decide +kernel
theorem dX3_init_13 : decode cX3_init 13 = .ok (.aload_n 0, 1) := by decide +kernel
theorem dX3_init_14 : decode cX3_init 14 = .ok (.bipush 10, 2) := by decide +kernel
theorem dX3_init_16 : decode cX3_init 16 = .ok (.anewarray 17, 3) := by decide +kernel
theorem dX3_init_19 : decode cX3_init 19 = .ok (.putfield 19, 3) := by decide +kernel
theorem dX3_init_22 : decode cX3_init 22 = .ok (.aload_n 0, 1) := by decide +kernel
theorem dX3_init_23 : decode cX3_init 23 = .ok (.sipush 320, 3) := by decide +kernel
theorem dX3_init_26 : decode cX3_init 26 = .ok (.newarray .int, 2) := by decide +kernel
theorem dX3_init_28 : decode cX3_init 28 = .ok (.putfield 23, 3) := by decide +kernel
theorem dX3_init_31 : decode cX3_init 31 = .ok (.aload_n 0, 1) := by decide +kernel
theorem dX3_init_32 : decode cX3_init 32 = .ok (.sipush 320, 3) := by decide +kernel
theorem dX3_init_35 : decode cX3_init 35 = .ok (.newarray .boolean, 2) := by decide +kernel
theorem dX3_init_37 : decode cX3_init 37 = .ok (.putfield 27, 3) := by decide +kernel
theorem dX3_init_40 : decode cX3_init 40 = .ok (.aload_n 0, 1) := by decide +kernel
theorem dX3_init_41 : decode cX3_init 41 = .ok (.iconst 0, 1) := by decide +kernel
theorem dX3_init_42 : decode cX3_init 42 = .ok (.putfield 31, 3) := by decide +kernel
theorem dX3_init_45 : decode cX3_init 45 = .ok (.aload_n 0, 1) := by decide +kernel
theorem dX3_init_46 : decode cX3_init 46 = .ok (.iconst 0, 1) := by decide +kernel
theorem dX3_init_47 : decode cX3_init 47 = .ok (.putfield 35, 3) := by decide +kernel
theorem dX3_init_50 : decode cX3_init 50 = .ok (.aload_n 0, 1) := by decide +kernel
theorem dX3_init_51 : decode cX3_init 51 = .ok (.iconst 0, 1) := by decide +kernel
theorem dX3_init_52 : decode cX3_init 52 = .ok (.putfield 38, 3) := by decide +kernel
theorem dX3_init_55 : decode cX3_init 55 = .ok (.aload_n 0, 1) := by decide +kernel
theorem dX3_init_56 : decode cX3_init 56 = .ok (.bipush 10, 2) := by decide +kernel
theorem dX3_init_58 : decode cX3_init 58 = .ok (.putfield 41, 3) := by decide +kernel
theorem dX3_init_61 : decode cX3_init 61 = .ok (.aload_n 0, 1) := by decide +kernel
theorem dX3_init_62 : decode cX3_init 62 = .ok (.iconst 0, 1) := by decide +kernel
theorem dX3_init_63 : decode cX3_init 63 = .ok (.putfield 44, 3) := by decide +kernel
theorem dX3_init_66 : decode cX3_init 66 = .ok (.aload_n 0, 1) := by decide +kernel
theorem dX3_init_67 : decode cX3_init 67 = .ok (.iconst 0, 1) := by decide +kernel
theorem dX3_init_68 : decode cX3_init 68 = .ok (.putfield 47, 3) := by decide +kernel
theorem dX3_init_71 : decode cX3_init 71 = .ok (.iconst 0, 1) := by decide +kernel
theorem dX3_init_72 : decode cX3_init 72 = .ok (.istore_n 1, 1) := by decide +kernel
theorem dX3_init_73 : decode cX3_init 73 = .ok (.iload_n 1, 1) := by decide +kernel
theorem dX3_init_74 : decode cX3_init 74 = .ok (.bipush 6, 2) := by decide +kernel
theorem dX3_init_76 : decode cX3_init 76 = .ok (.if_icmp .ge 23, 3) := by decide +kernel
theorem dX3_init_79 : decode cX3_init 79 = .ok (.aload_n 0, 1) := by decide +kernel
theorem dX3_init_80 : decode cX3_init 80 = .ok (.getfield 11, 3) := by decide +kernel
theorem dX3_init_83 : decode cX3_init 83 = .ok (.iload_n 1, 1) := by decide +kernel
theorem dX3_init_84 : decode cX3_init 84 = .ok (.new 9, 3) := by decide +kernel
theorem dX3_init_87 : decode cX3_init 87 = .ok (.dup, 1) := by decide +kernel
theorem dX3_init_88 : decode cX3_init 88 = .ok (.iload_n 1, 1) := by decide +kernel
theorem dX3_init_89 : decode cX3_init 89 = .ok (.invokespecial 50, 3) := by decide +kernel
theorem dX3_init_92 : decode cX3_init 92 = .ok (.aastore, 1) := by decide +kernel
theorem dX3_init_93 : decode cX3_init 93 = .ok (.iinc 1 1, 3) := by decide +kernel
theorem dX3_init_96 : decode cX3_init 96 = .ok (.goto (-23), 3) := by decide +kernel
theorem dX3_init_99 : decode cX3_init 99 = .ok (.iconst 0, 1) := by decide +kernel
theorem dX3_init_100 : decode cX3_init 100 = .ok (.istore_n 1, 1) := by decide +kernel
theorem dX3_init_101 : decode cX3_init 101 = .ok (.iload_n 1, 1) := by decide +kernel
theorem dX3_init_102 : decode cX3_init 102 = .ok (.bipush 10, 2) := by decide +kernel
theorem dX3_init_104 : decode cX3_init 104 = .ok (.if_icmp .ge 22, 3) := by decide +kernel
theorem dX3_init_107 : decode cX3_init 107 = .ok (.aload_n 0, 1) := by decide +kernel
theorem dX3_init_108 : decode cX3_init 108 = .ok (.getfield 19, 3) := by decide +kernel
theorem dX3_init_111 : decode cX3_init 111 = .ok (.iload_n 1, 1) := by decide +kernel
theorem dX3_init_112 : decode cX3_init 112 = .ok (.new 17, 3) := by decide +kernel
theorem dX3_init_115 : decode cX3_init 115 = .ok (.dup, 1) := by decide +kernel
theorem dX3_init_116 : decode cX3_init 116 = .ok (.invokespecial 53, 3) := by decide +kernel
theorem dX3_init_119 : decode cX3_init 119 = .ok (.aastore, 1) := by decide +kernel
theorem dX3_init_120 : decode cX3_init 120 = .ok (.iinc 1 1, 3) := by decide +kernel
theorem dX3_init_123 : decode cX3_init 123 = .ok (.goto (-22), 3) := by decide +kernel
theorem dX3_init_126 : decode cX3_init 126 = .ok (.return_, 1) := by decide +kernel
theorem dX3_addLad_0 : decode cX3_addLad 0 = .ok (.aload_n 0, 1) := by decide +kernel
theorem dX3_addLad_1 : decode cX3_addLad 1 = .ok (.getfield 31, 3) := by decide +kernel
theorem dX3_addLad_4 : decode cX3_addLad 4 = .ok (.bipush 6, 2) := by decide +kernel
theorem dX3_addLad_6 : decode cX3_addLad 6 = .ok (.if_icmp .lt 5, 3) := by decide +kernel
theorem dX3_addLad_9 : decode cX3_addLad 9 = .ok (.iconst (-1), 1) := by decide +kernel
theorem dX3_addLad_10 : decode cX3_addLad 10 = .ok (.ireturn, 1) := by decide +kernel
theorem dX3_addLad_11 : decode cX3_addLad 11 = .ok (.aload_n 0, 1) := by decide +kernel
theorem dX3_addLad_12 : decode cX3_addLad 12 = .ok (.getfield 11, 3) := by decide +kernel
theorem dX3_addLad_15 : decode cX3_addLad 15 = .ok (.aload_n 0, 1) := by decide +kernel
theorem dX3_addLad_16 : decode cX3_addLad 16 = .ok (.getfield 31, 3) := by decide +kernel
theorem dX3_addLad_19 : decode cX3_addLad 19 = .ok (.aaload, 1) := by decide +kernel
theorem dX3_addLad_20 : decode cX3_addLad 20 = .ok (.iload_n 1, 1) := by decide +kernel
theorem dX3_addLad_21 : decode cX3_addLad 21 = .ok (.putfield 54, 3) := by decide +kernel
theorem dX3_addLad_24 : decode cX3_addLad 24 = .ok (.aload_n 0, 1) := by decide +kernel
theorem dX3_addLad_25 : decode cX3_addLad 25 = .ok (.dup, 1) := by decide +kernel
theorem dX3_addLad_26 : decode cX3_addLad 26 = .ok (.getfield 31, 3) := by decide +kernel
theorem dX3_addLad_29 : decode cX3_addLad 29 = .ok (.iconst 1, 1) := by decide +kernel
theorem dX3_addLad_30 : decode cX3_addLad 30 = .ok (.iadd, 1) := by decide +kernel
theorem dX3_addLad_31 : decode cX3_addLad 31 = .ok (.putfield 31, 3) := by decide +kernel
theorem dX3_addLad_34 : decode cX3_addLad 34 = .ok (.aload_n 0, 1) := by decide +kernel
theorem dX3_addLad_35 : decode cX3_addLad 35 = .ok (.getfield 31, 3) := by decide +kernel
theorem dX3_addLad_38 : decode cX3_addLad 38 = .ok (.iconst 1, 1) := by decide +kernel
theorem dX3_addLad_39 : decode cX3_addLad 39 = .ok (.isub, 1) := by decide +kernel
theorem dX3_addLad_40 : decode cX3_addLad 40 = .ok (.ireturn, 1) := by decide +kernel
theorem dX3_addLoad_0 : decode cX3_addLoad 0 = .ok (.aload_n 0, 1) := by decide +kernel
theorem dX3_addLoad_1 : decode cX3_addLoad 1 = .ok (.getfield 35, 3) := by decide +kernel
theorem dX3_addLoad_4 : decode cX3_addLoad 4 = .ok (.bipush 10, 2) := by decide +kernel
theorem dX3_addLoad_6 : decode cX3_addLoad 6 = .ok (.if_icmp .lt 5, 3) := by decide +kernel
theorem dX3_addLoad_9 : decode cX3_addLoad 9 = .ok (.iconst (-1), 1) := by decide +kernel
theorem dX3_addLoad_10 : decode cX3_addLoad 10 = .ok (.ireturn, 1) := by decide +kernel
theorem dX3_addLoad_11 : decode cX3_addLoad 11 = .ok (.aload_n 0, 1) := by decide +kernel
theorem dX3_addLoad_12 : decode cX3_addLoad 12 = .ok (.getfield 19, 3) := by decide +kernel
theorem dX3_addLoad_15 : decode cX3_addLoad 15 = .ok (.aload_n 0, 1) := by decide +kernel
theorem dX3_addLoad_16 : decode cX3_addLoad 16 = .ok (.getfield 35, 3) := by decide +kernel
theorem dX3_addLoad_19 : decode cX3_addLoad 19 = .ok (.aaload, 1) := by decide +kernel
theorem dX3_addLoad_20 : decode cX3_addLoad 20 = .ok (.iload_n 1, 1) := by decide +kernel
theorem dX3_addLoad_21 : decode cX3_addLoad 21 = .ok (.putfield 57, 3) := by decide +kernel
theorem dX3_addLoad_24 : decode cX3_addLoad 24 = .ok (.aload_n 0, 1) := by decide +kernel
theorem dX3_addLoad_25 : decode cX3_addLoad 25 = .ok (.getfield 19, 3) := by decide +kernel
theorem dX3_addLoad_28 : decode cX3_addLoad 28 = .ok (.aload_n 0, 1) := by decide +kernel
theorem dX3_addLoad_29 : decode cX3_addLoad 29 = .ok (.getfield 35, 3) := by decide +kernel
theorem dX3_addLoad_32 : decode cX3_addLoad 32 = .ok (.aaload, 1) := by decide +kernel
theorem dX3_addLoad_33 : decode cX3_addLoad 33 = .ok (.aload_n 0, 1) := by decide +kernel
theorem dX3_addLoad_34 : decode cX3_addLoad 34 = .ok (.getfield 38, 3) := by decide +kernel
theorem dX3_addLoad_37 : decode cX3_addLoad 37 = .ok (.putfield 60, 3) := by decide +kernel
theorem dX3_addLoad_40 : decode cX3_addLoad 40 = .ok (.aload_n 0, 1) := by decide +kernel
theorem dX3_addLoad_41 : decode cX3_addLoad 41 = .ok (.aload_n 0, 1) := by decide +kernel
theorem dX3_addLoad_42 : decode cX3_addLoad 42 = .ok (.getfield 35, 3) := by decide +kernel
theorem dX3_addLoad_45 : decode cX3_addLoad 45 = .ok (.bipush 32, 2) := by decide +kernel
theorem dX3_addLoad_47 : decode cX3_addLoad 47 = .ok (.imul, 1) := by decide +kernel
theorem dX3_addLoad_48 : decode cX3_addLoad 48 = .ok (.iconst 1, 1) := by decide +kernel
theorem dX3_addLoad_49 : decode cX3_addLoad 49 = .ok (.iadd, 1) := by decide +kernel
theorem dX3_addLoad_50 : decode cX3_addLoad 50 = .ok (.iload_n 1, 1) := by decide +kernel
theorem dX3_addLoad_51 : decode cX3_addLoad 51 = .ok (.invokevirtual 63, 3) := by decide +kernel
theorem dX3_addLoad_54 : decode cX3_addLoad 54 = .ok (.aload_n 0, 1) := by decide +kernel
theorem dX3_addLoad_55 : decode cX3_addLoad 55 = .ok (.dup, 1) := by decide +kernel
theorem dX3_addLoad_56 : decode cX3_addLoad 56 = .ok (.getfield 35, 3) := by decide +kernel
theorem dX3_addLoad_59 : decode cX3_addLoad 59 = .ok (.iconst 1, 1) := by decide +kernel
theorem dX3_addLoad_60 : decode cX3_addLoad 60 = .ok (.iadd, 1) := by decide +kernel
theorem dX3_addLoad_61 : decode cX3_addLoad 61 = .ok (.putfield 35, 3) := by decide +kernel
theorem dX3_addLoad_64 : decode cX3_addLoad 64 = .ok (.aload_n 0, 1) := by decide +kernel
theorem dX3_addLoad_65 : decode cX3_addLoad 65 = .ok (.invokevirtual 67, 3) := by decide +kernel
theorem dX3_addLoad_68 : decode cX3_addLoad 68 = .ok (.aload_n 0, 1) := by decide +kernel
theorem dX3_addLoad_69 : decode cX3_addLoad 69 = .ok (.getfield 35, 3) := by decide +kernel
theorem dX3_addLoad_72 : decode cX3_addLoad 72 = .ok (.iconst 1, 1) := by decide +kernel
theorem dX3_addLoad_73 : decode cX3_addLoad 73 = .ok (.isub, 1) := by decide +kernel
theorem dX3_addLoad_74 : decode cX3_addLoad 74 = .ok (.ireturn, 1) := by decide +kernel
theorem dX3_wakeAll_0 : decode cX3_wakeAll 0 = .ok (.iconst 0, 1) := by decide +kernel
theorem dX3_wakeAll_1 : decode cX3_wakeAll 1 = .ok (.istore_n 1, 1) := by decide +kernel
theorem dX3_wakeAll_2 : decode cX3_wakeAll 2 = .ok (.iload_n 1, 1) := by decide +kernel
theorem dX3_wakeAll_3 : decode cX3_wakeAll 3 = .ok (.aload_n 0, 1) := by decide +kernel
theorem dX3_wakeAll_4 : decode cX3_wakeAll 4 = .ok (.getfield 31, 3) := by decide +kernel
theorem dX3_wakeAll_7 : decode cX3_wakeAll 7 = .ok (.if_icmp .ge 19, 3) := by decide +kernel
theorem dX3_wakeAll_10 : decode cX3_wakeAll 10 = .ok (.aload_n 0, 1) := by decide +kernel
theorem dX3_wakeAll_11 : decode cX3_wakeAll 11 = .ok (.getfield 11, 3) := by decide +kernel
theorem dX3_wakeAll_14 : decode cX3_wakeAll 14 = .ok (.iload_n 1, 1) := by decide +kernel
theorem dX3_wakeAll_15 : decode cX3_wakeAll 15 = .ok (.aaload, 1) := by decide +kernel
theorem dX3_wakeAll_16 : decode cX3_wakeAll 16 = .ok (.iconst 0, 1) := by decide +kernel
theorem dX3_wakeAll_17 : decode cX3_wakeAll 17 = .ok (.putfield 70, 3) := by decide +kernel
theorem dX3_wakeAll_20 : decode cX3_wakeAll 20 = .ok (.iinc 1 1, 3) := by decide +kernel
theorem dX3_wakeAll_23 : decode cX3_wakeAll 23 = .ok (.goto (-21), 3) := by decide +kernel
theorem dX3_wakeAll_26 : decode cX3_wakeAll 26 = .ok (.return_, 1) := by decide +kernel
theorem dX3_tell_0 : decode cX3_tell 0 = .ok (.iload_n 1, 1) := by decide +kernel
theorem dX3_tell_1 : decode cX3_tell 1 = .ok (.tableswitch 131 0 11 #[63, 68, 73, 78, 84, 90, 96, 101, 107, 112, 117, 124], 63) := by decide +kernel
theorem dX3_tell_64 : decode cX3_tell 64 = .ok (.aload_n 0, 1) := by decide +kernel
theorem dX3_tell_65 : decode cX3_tell 65 = .ok (.getfield 38, 3) := by decide +kernel
theorem dX3_tell_68 : decode cX3_tell 68 = .ok (.ireturn, 1) := by decide +kernel
theorem dX3_tell_69 : decode cX3_tell 69 = .ok (.aload_n 0, 1) := by decide +kernel
theorem dX3_tell_70 : decode cX3_tell 70 = .ok (.getfield 31, 3) := by decide +kernel
theorem dX3_tell_73 : decode cX3_tell 73 = .ok (.ireturn, 1) := by decide +kernel
theorem dX3_tell_74 : decode cX3_tell 74 = .ok (.aload_n 0, 1) := by decide +kernel
theorem dX3_tell_75 : decode cX3_tell 75 = .ok (.getfield 35, 3) := by decide +kernel
theorem dX3_tell_78 : decode cX3_tell 78 = .ok (.ireturn, 1) := by decide +kernel
theorem dX3_tell_79 : decode cX3_tell 79 = .ok (.aload_n 0, 1) := by decide +kernel
theorem dX3_tell_80 : decode cX3_tell 80 = .ok (.iconst 2, 1) := by decide +kernel
theorem dX3_tell_81 : decode cX3_tell 81 = .ok (.invokevirtual 74, 3) := by decide +kernel
theorem dX3_tell_84 : decode cX3_tell 84 = .ok (.ireturn, 1) := by decide +kernel
theorem dX3_tell_85 : decode cX3_tell 85 = .ok (.aload_n 0, 1) := by decide +kernel
theorem dX3_tell_86 : decode cX3_tell 86 = .ok (.iconst 0, 1) := by decide +kernel
theorem dX3_tell_87 : decode cX3_tell 87 = .ok (.invokevirtual 74, 3) := by decide +kernel
theorem dX3_tell_90 : decode cX3_tell 90 = .ok (.ireturn, 1) := by decide +kernel
theorem dX3_tell_91 : decode cX3_tell 91 = .ok (.aload_n 0, 1) := by decide +kernel
theorem dX3_tell_92 : decode cX3_tell 92 = .ok (.iconst 2, 1) := by decide +kernel
theorem dX3_tell_93 : decode cX3_tell 93 = .ok (.invokevirtual 78, 3) := by decide +kernel
theorem dX3_tell_96 : decode cX3_tell 96 = .ok (.ireturn, 1) := by decide +kernel
theorem dX3_tell_97 : decode cX3_tell 97 = .ok (.aload_n 0, 1) := by decide +kernel
theorem dX3_tell_98 : decode cX3_tell 98 = .ok (.invokevirtual 81, 3) := by decide +kernel
theorem dX3_tell_101 : decode cX3_tell 101 = .ok (.ireturn, 1) := by decide +kernel
theorem dX3_tell_102 : decode cX3_tell 102 = .ok (.aload_n 0, 1) := by decide +kernel
theorem dX3_tell_103 : decode cX3_tell 103 = .ok (.iconst 5, 1) := by decide +kernel
theorem dX3_tell_104 : decode cX3_tell 104 = .ok (.invokevirtual 78, 3) := by decide +kernel
theorem dX3_tell_107 : decode cX3_tell 107 = .ok (.ireturn, 1) := by decide +kernel
theorem dX3_tell_108 : decode cX3_tell 108 = .ok (.aload_n 0, 1) := by decide +kernel
theorem dX3_tell_109 : decode cX3_tell 109 = .ok (.getfield 44, 3) := by decide +kernel
theorem dX3_tell_112 : decode cX3_tell 112 = .ok (.ireturn, 1) := by decide +kernel
theorem dX3_tell_113 : decode cX3_tell 113 = .ok (.aload_n 0, 1) := by decide +kernel
theorem dX3_tell_114 : decode cX3_tell 114 = .ok (.getfield 47, 3) := by decide +kernel
theorem dX3_tell_117 : decode cX3_tell 117 = .ok (.ireturn, 1) := by decide +kernel
theorem dX3_tell_118 : decode cX3_tell 118 = .ok (.aload_n 0, 1) := by decide +kernel
theorem dX3_tell_119 : decode cX3_tell 119 = .ok (.bipush 7, 2) := by decide +kernel
theorem dX3_tell_121 : decode cX3_tell 121 = .ok (.invokevirtual 78, 3) := by decide +kernel
theorem dX3_tell_124 : decode cX3_tell 124 = .ok (.ireturn, 1) := by decide +kernel
theorem dX3_tell_125 : decode cX3_tell 125 = .ok (.aload_n 0, 1) := by decide +kernel
theorem dX3_tell_126 : decode cX3_tell 126 = .ok (.bipush 6, 2) := by decide +kernel
theorem dX3_tell_128 : decode cX3_tell 128 = .ok (.invokevirtual 85, 3) := by decide +kernel
theorem dX3_tell_131 : decode cX3_tell 131 = .ok (.ireturn, 1) := by decide +kernel
theorem dX3_tell_132 : decode cX3_tell 132 = .ok (.aload_n 0, 1) := by decide +kernel
theorem dX3_tell_133 : decode cX3_tell 133 = .ok (.getfield 41, 3) := by decide +kernel
theorem dX3_tell_136 : decode cX3_tell 136 = .ok (.ireturn, 1) := by decide +kernel
theorem dX3_loadsThatAre_0 : decode cX3_loadsThatAre 0 = .ok (.iconst 0, 1) := by decide +kernel
theorem dX3_loadsThatAre_1 : decode cX3_loadsThatAre 1 = .ok (.istore_n 2, 1) := by decide +kernel
theorem dX3_loadsThatAre_2 : decode cX3_loadsThatAre 2 = .ok (.iconst 0, 1) := by decide +kernel
theorem dX3_loadsThatAre_3 : decode cX3_loadsThatAre 3 = .ok (.istore_n 3, 1) := by decide +kernel
theorem dX3_loadsThatAre_4 : decode cX3_loadsThatAre 4 = .ok (.iload_n 3, 1) := by decide +kernel
theorem dX3_loadsThatAre_5 : decode cX3_loadsThatAre 5 = .ok (.aload_n 0, 1) := by decide +kernel
theorem dX3_loadsThatAre_6 : decode cX3_loadsThatAre 6 = .ok (.getfield 35, 3) := by decide +kernel
theorem dX3_loadsThatAre_9 : decode cX3_loadsThatAre 9 = .ok (.if_icmp .ge 25, 3) := by decide +kernel
theorem dX3_loadsThatAre_12 : decode cX3_loadsThatAre 12 = .ok (.aload_n 0, 1) := by decide +kernel
theorem dX3_loadsThatAre_13 : decode cX3_loadsThatAre 13 = .ok (.getfield 19, 3) := by decide +kernel
theorem dX3_loadsThatAre_16 : decode cX3_loadsThatAre 16 = .ok (.iload_n 3, 1) := by decide +kernel
theorem dX3_loadsThatAre_17 : decode cX3_loadsThatAre 17 = .ok (.aaload, 1) := by decide +kernel
theorem dX3_loadsThatAre_18 : decode cX3_loadsThatAre 18 = .ok (.getfield 88, 3) := by decide +kernel
theorem dX3_loadsThatAre_21 : decode cX3_loadsThatAre 21 = .ok (.iload_n 1, 1) := by decide +kernel
theorem dX3_loadsThatAre_22 : decode cX3_loadsThatAre 22 = .ok (.if_icmp .ne 6, 3) := by decide +kernel
theorem dX3_loadsThatAre_25 : decode cX3_loadsThatAre 25 = .ok (.iinc 2 1, 3) := by decide +kernel
theorem dX3_loadsThatAre_28 : decode cX3_loadsThatAre 28 = .ok (.iinc 3 1, 3) := by decide +kernel
theorem dX3_loadsThatAre_31 : decode cX3_loadsThatAre 31 = .ok (.goto (-27), 3) := by decide +kernel
theorem dX3_loadsThatAre_34 : decode cX3_loadsThatAre 34 = .ok (.iload_n 2, 1) := by decide +kernel
theorem dX3_loadsThatAre_35 : decode cX3_loadsThatAre 35 = .ok (.ireturn, 1) := by decide +kernel
theorem dX3_sumOverLads_0 : decode cX3_sumOverLads 0 = .ok (.iconst 0, 1) := by decide +kernel
theorem dX3_sumOverLads_1 : decode cX3_sumOverLads 1 = .ok (.istore_n 2, 1) := by decide +kernel
theorem dX3_sumOverLads_2 : decode cX3_sumOverLads 2 = .ok (.iconst 0, 1) := by decide +kernel
theorem dX3_sumOverLads_3 : decode cX3_sumOverLads 3 = .ok (.istore_n 3, 1) := by decide +kernel
theorem dX3_sumOverLads_4 : decode cX3_sumOverLads 4 = .ok (.iload_n 3, 1) := by decide +kernel
theorem dX3_sumOverLads_5 : decode cX3_sumOverLads 5 = .ok (.aload_n 0, 1) := by decide +kernel
theorem dX3_sumOverLads_6 : decode cX3_sumOverLads 6 = .ok (.getfield 31, 3) := by decide +kernel
theorem dX3_sumOverLads_9 : decode cX3_sumOverLads 9 = .ok (.if_icmp .ge 22, 3) := by decide +kernel
theorem dX3_sumOverLads_12 : decode cX3_sumOverLads 12 = .ok (.iload_n 2, 1) := by decide +kernel
theorem dX3_sumOverLads_13 : decode cX3_sumOverLads 13 = .ok (.aload_n 0, 1) := by decide +kernel
theorem dX3_sumOverLads_14 : decode cX3_sumOverLads 14 = .ok (.getfield 11, 3) := by decide +kernel
theorem dX3_sumOverLads_17 : decode cX3_sumOverLads 17 = .ok (.iload_n 3, 1) := by decide +kernel
theorem dX3_sumOverLads_18 : decode cX3_sumOverLads 18 = .ok (.aaload, 1) := by decide +kernel
theorem dX3_sumOverLads_19 : decode cX3_sumOverLads 19 = .ok (.iload_n 1, 1) := by decide +kernel
theorem dX3_sumOverLads_20 : decode cX3_sumOverLads 20 = .ok (.invokevirtual 91, 3) := by decide +kernel
theorem dX3_sumOverLads_23 : decode cX3_sumOverLads 23 = .ok (.iadd, 1) := by decide +kernel
theorem dX3_sumOverLads_24 : decode cX3_sumOverLads 24 = .ok (.istore_n 2, 1) := by decide +kernel
theorem dX3_sumOverLads_25 : decode cX3_sumOverLads 25 = .ok (.iinc 3 1, 3) := by decide +kernel
theorem dX3_sumOverLads_28 : decode cX3_sumOverLads 28 = .ok (.goto (-24), 3) := by decide +kernel
theorem dX3_sumOverLads_31 : decode cX3_sumOverLads 31 = .ok (.iload_n 2, 1) := by decide +kernel
theorem dX3_sumOverLads_32 : decode cX3_sumOverLads 32 = .ok (.ireturn, 1) := by decide +kernel
theorem dX3_sumOverLoads_0 : decode cX3_sumOverLoads 0 = .ok (.iconst 0, 1) := by decide +kernel
theorem dX3_sumOverLoads_1 : decode cX3_sumOverLoads 1 = .ok (.istore_n 2, 1) := by decide +kernel
theorem dX3_sumOverLoads_2 : decode cX3_sumOverLoads 2 = .ok (.iconst 0, 1) := by decide +kernel
theorem dX3_sumOverLoads_3 : decode cX3_sumOverLoads 3 = .ok (.istore_n 3, 1) := by decide +kernel
theorem dX3_sumOverLoads_4 : decode cX3_sumOverLoads 4 = .ok (.iload_n 3, 1) := by decide +kernel
theorem dX3_sumOverLoads_5 : decode cX3_sumOverLoads 5 = .ok (.aload_n 0, 1) := by decide +kernel
theorem dX3_sumOverLoads_6 : decode cX3_sumOverLoads 6 = .ok (.getfield 35, 3) := by decide +kernel
theorem dX3_sumOverLoads_9 : decode cX3_sumOverLoads 9 = .ok (.if_icmp .ge 22, 3) := by decide +kernel
theorem dX3_sumOverLoads_12 : decode cX3_sumOverLoads 12 = .ok (.iload_n 2, 1) := by decide +kernel
theorem dX3_sumOverLoads_13 : decode cX3_sumOverLoads 13 = .ok (.aload_n 0, 1) := by decide +kernel
theorem dX3_sumOverLoads_14 : decode cX3_sumOverLoads 14 = .ok (.getfield 19, 3) := by decide +kernel
theorem dX3_sumOverLoads_17 : decode cX3_sumOverLoads 17 = .ok (.iload_n 3, 1) := by decide +kernel
theorem dX3_sumOverLoads_18 : decode cX3_sumOverLoads 18 = .ok (.aaload, 1) := by decide +kernel
theorem dX3_sumOverLoads_19 : decode cX3_sumOverLoads 19 = .ok (.iload_n 1, 1) := by decide +kernel
theorem dX3_sumOverLoads_20 : decode cX3_sumOverLoads 20 = .ok (.invokevirtual 94, 3) := by decide +kernel
theorem dX3_sumOverLoads_23 : decode cX3_sumOverLoads 23 = .ok (.iadd, 1) := by decide +kernel
theorem dX3_sumOverLoads_24 : decode cX3_sumOverLoads 24 = .ok (.istore_n 2, 1) := by decide +kernel
theorem dX3_sumOverLoads_25 : decode cX3_sumOverLoads 25 = .ok (.iinc 3 1, 3) := by decide +kernel
theorem dX3_sumOverLoads_28 : decode cX3_sumOverLoads 28 = .ok (.goto (-24), 3) := by decide +kernel
theorem dX3_sumOverLoads_31 : decode cX3_sumOverLoads 31 = .ok (.iload_n 2, 1) := by decide +kernel
theorem dX3_sumOverLoads_32 : decode cX3_sumOverLoads 32 = .ok (.ireturn, 1) := by decide +kernel
theorem dX3_sleepers_0 : decode cX3_sleepers 0 = .ok (.iconst 0, 1) := by decide +kernel
theorem dX3_sleepers_1 : decode cX3_sleepers 1 = .ok (.istore_n 1, 1) := by decide +kernel
theorem dX3_sleepers_2 : decode cX3_sleepers 2 = .ok (.iconst 0, 1) := by decide +kernel
theorem dX3_sleepers_3 : decode cX3_sleepers 3 = .ok (.istore_n 2, 1) := by decide +kernel
theorem dX3_sleepers_4 : decode cX3_sleepers 4 = .ok (.iload_n 2, 1) := by decide +kernel
theorem dX3_sleepers_5 : decode cX3_sleepers 5 = .ok (.aload_n 0, 1) := by decide +kernel
theorem dX3_sleepers_6 : decode cX3_sleepers 6 = .ok (.getfield 31, 3) := by decide +kernel
theorem dX3_sleepers_9 : decode cX3_sleepers 9 = .ok (.if_icmp .ge 24, 3) := by decide +kernel
theorem dX3_sleepers_12 : decode cX3_sleepers 12 = .ok (.aload_n 0, 1) := by decide +kernel
theorem dX3_sleepers_13 : decode cX3_sleepers 13 = .ok (.getfield 11, 3) := by decide +kernel
theorem dX3_sleepers_16 : decode cX3_sleepers 16 = .ok (.iload_n 2, 1) := by decide +kernel
theorem dX3_sleepers_17 : decode cX3_sleepers 17 = .ok (.aaload, 1) := by decide +kernel
theorem dX3_sleepers_18 : decode cX3_sleepers 18 = .ok (.getfield 70, 3) := by decide +kernel
theorem dX3_sleepers_21 : decode cX3_sleepers 21 = .ok (.ifCond .eq 6, 3) := by decide +kernel
theorem dX3_sleepers_24 : decode cX3_sleepers 24 = .ok (.iinc 1 1, 3) := by decide +kernel
theorem dX3_sleepers_27 : decode cX3_sleepers 27 = .ok (.iinc 2 1, 3) := by decide +kernel
theorem dX3_sleepers_30 : decode cX3_sleepers 30 = .ok (.goto (-26), 3) := by decide +kernel
theorem dX3_sleepers_33 : decode cX3_sleepers 33 = .ok (.iload_n 1, 1) := by decide +kernel
theorem dX3_sleepers_34 : decode cX3_sleepers 34 = .ok (.ireturn, 1) := by decide +kernel
theorem dX3_balesOf_0 : decode cX3_balesOf 0 = .ok (.iload_n 1, 1) := by decide +kernel
theorem dX3_balesOf_1 : decode cX3_balesOf 1 = .ok (.ifCond .lt 19, 3) := by decide +kernel
theorem dX3_balesOf_4 : decode cX3_balesOf 4 = .ok (.iload_n 1, 1) := by decide +kernel
theorem dX3_balesOf_5 : decode cX3_balesOf 5 = .ok (.sipush 320, 3) := by decide +kernel
theorem dX3_balesOf_8 : decode cX3_balesOf 8 = .ok (.if_icmp .ge 12, 3) := by decide +kernel
theorem dX3_balesOf_11 : decode cX3_balesOf 11 = .ok (.aload_n 0, 1) := by decide +kernel
theorem dX3_balesOf_12 : decode cX3_balesOf 12 = .ok (.getfield 23, 3) := by decide +kernel
theorem dX3_balesOf_15 : decode cX3_balesOf 15 = .ok (.iload_n 1, 1) := by decide +kernel
theorem dX3_balesOf_16 : decode cX3_balesOf 16 = .ok (.iaload, 1) := by decide +kernel
theorem dX3_balesOf_17 : decode cX3_balesOf 17 = .ok (.goto 4, 3) := by decide +kernel
theorem dX3_balesOf_20 : decode cX3_balesOf 20 = .ok (.iconst 0, 1) := by decide +kernel
theorem dX3_balesOf_21 : decode cX3_balesOf 21 = .ok (.ireturn, 1) := by decide +kernel
theorem dX3_setBales_0 : decode cX3_setBales 0 = .ok (.iload_n 1, 1) := by decide +kernel
theorem dX3_setBales_1 : decode cX3_setBales 1 = .ok (.ifCond .lt 17, 3) := by decide +kernel
theorem dX3_setBales_4 : decode cX3_setBales 4 = .ok (.iload_n 1, 1) := by decide +kernel
theorem dX3_setBales_5 : decode cX3_setBales 5 = .ok (.sipush 320, 3) := by decide +kernel
theorem dX3_setBales_8 : decode cX3_setBales 8 = .ok (.if_icmp .ge 10, 3) := by decide +kernel
theorem dX3_setBales_11 : decode cX3_setBales 11 = .ok (.aload_n 0, 1) := by decide +kernel
theorem dX3_setBales_12 : decode cX3_setBales 12 = .ok (.getfield 23, 3) := by decide +kernel
theorem dX3_setBales_15 : decode cX3_setBales 15 = .ok (.iload_n 1, 1) := by decide +kernel
theorem dX3_setBales_16 : decode cX3_setBales 16 = .ok (.iload_n 2, 1) := by decide +kernel
theorem dX3_setBales_17 : decode cX3_setBales 17 = .ok (.iastore, 1) := by decide +kernel
theorem dX3_setBales_18 : decode cX3_setBales 18 = .ok (.return_, 1) := by decide +kernel
theorem dX3_loadOf_0 : decode cX3_loadOf 0 = .ok (.aload_n 0, 1) := by decide +kernel
theorem dX3_loadOf_1 : decode cX3_loadOf 1 = .ok (.getfield 19, 3) := by decide +kernel
theorem dX3_loadOf_4 : decode cX3_loadOf 4 = .ok (.iload_n 1, 1) := by decide +kernel
theorem dX3_loadOf_5 : decode cX3_loadOf 5 = .ok (.ifCond .lt 17, 3) := by decide +kernel
theorem dX3_loadOf_8 : decode cX3_loadOf 8 = .ok (.iload_n 1, 1) := by decide +kernel
theorem dX3_loadOf_9 : decode cX3_loadOf 9 = .ok (.sipush 320, 3) := by decide +kernel
theorem dX3_loadOf_12 : decode cX3_loadOf 12 = .ok (.if_icmp .ge 10, 3) := by decide +kernel
theorem dX3_loadOf_15 : decode cX3_loadOf 15 = .ok (.iload_n 1, 1) := by decide +kernel
theorem dX3_loadOf_16 : decode cX3_loadOf 16 = .ok (.bipush 32, 2) := by decide +kernel
theorem dX3_loadOf_18 : decode cX3_loadOf 18 = .ok (.idiv, 1) := by decide +kernel
theorem dX3_loadOf_19 : decode cX3_loadOf 19 = .ok (.goto 4, 3) := by decide +kernel
theorem dX3_loadOf_22 : decode cX3_loadOf 22 = .ok (.iconst 0, 1) := by decide +kernel
theorem dX3_loadOf_23 : decode cX3_loadOf 23 = .ok (.aaload, 1) := by decide +kernel
theorem dX3_loadOf_24 : decode cX3_loadOf 24 = .ok (.areturn, 1) := by decide +kernel
theorem dX3_victimOf_0 : decode cX3_victimOf 0 = .ok (.aload_n 1, 1) := by decide +kernel
theorem dX3_victimOf_1 : decode cX3_victimOf 1 = .ok (.getfield 95, 3) := by decide +kernel
theorem dX3_victimOf_4 : decode cX3_victimOf 4 = .ok (.lookupswitch 40 #[(1, 28), (2, 34)], 28) := by decide +kernel
theorem dX3_victimOf_32 : decode cX3_victimOf 32 = .ok (.aload_n 0, 1) := by decide +kernel
theorem dX3_victimOf_33 : decode cX3_victimOf 33 = .ok (.aload_n 1, 1) := by decide +kernel
theorem dX3_victimOf_34 : decode cX3_victimOf 34 = .ok (.invokevirtual 98, 3) := by decide +kernel
theorem dX3_victimOf_37 : decode cX3_victimOf 37 = .ok (.ireturn, 1) := by decide +kernel
theorem dX3_victimOf_38 : decode cX3_victimOf 38 = .ok (.aload_n 0, 1) := by decide +kernel
theorem dX3_victimOf_39 : decode cX3_victimOf 39 = .ok (.aload_n 1, 1) := by decide +kernel
theorem dX3_victimOf_40 : decode cX3_victimOf 40 = .ok (.invokevirtual 102, 3) := by decide +kernel
theorem dX3_victimOf_43 : decode cX3_victimOf 43 = .ok (.ireturn, 1) := by decide +kernel
theorem dX3_victimOf_44 : decode cX3_victimOf 44 = .ok (.aload_n 0, 1) := by decide +kernel
theorem dX3_victimOf_45 : decode cX3_victimOf 45 = .ok (.aload_n 1, 1) := by decide +kernel
theorem dX3_victimOf_46 : decode cX3_victimOf 46 = .ok (.invokevirtual 105, 3) := by decide +kernel
theorem dX3_victimOf_49 : decode cX3_victimOf 49 = .ok (.ireturn, 1) := by decide +kernel
theorem dX3_canBeRobbed_0 : decode cX3_canBeRobbed 0 = .ok (.aload_n 1, 1) := by decide +kernel
theorem dX3_canBeRobbed_1 : decode cX3_canBeRobbed 1 = .ok (.aload_n 2, 1) := by decide +kernel
theorem dX3_canBeRobbed_2 : decode cX3_canBeRobbed 2 = .ok (.if_acmp .eq 17, 3) := by decide +kernel
theorem dX3_canBeRobbed_5 : decode cX3_canBeRobbed 5 = .ok (.aload_n 1, 1) := by decide +kernel
theorem dX3_canBeRobbed_6 : decode cX3_canBeRobbed 6 = .ok (.getfield 108, 3) := by decide +kernel
theorem dX3_canBeRobbed_9 : decode cX3_canBeRobbed 9 = .ok (.getfield 112, 3) := by decide +kernel
theorem dX3_canBeRobbed_12 : decode cX3_canBeRobbed 12 = .ok (.ifCond .le 7, 3) := by decide +kernel
theorem dX3_canBeRobbed_15 : decode cX3_canBeRobbed 15 = .ok (.iconst 1, 1) := by decide +kernel
theorem dX3_canBeRobbed_16 : decode cX3_canBeRobbed 16 = .ok (.goto 4, 3) := by decide +kernel
theorem dX3_canBeRobbed_19 : decode cX3_canBeRobbed 19 = .ok (.iconst 0, 1) := by decide +kernel
theorem dX3_canBeRobbed_20 : decode cX3_canBeRobbed 20 = .ok (.ireturn, 1) := by decide +kernel
theorem dX3_nextWithHay_0 : decode cX3_nextWithHay 0 = .ok (.iconst 1, 1) := by decide +kernel
theorem dX3_nextWithHay_1 : decode cX3_nextWithHay 1 = .ok (.istore_n 2, 1) := by decide +kernel
theorem dX3_nextWithHay_2 : decode cX3_nextWithHay 2 = .ok (.iload_n 2, 1) := by decide +kernel
theorem dX3_nextWithHay_3 : decode cX3_nextWithHay 3 = .ok (.aload_n 0, 1) := by decide +kernel
theorem dX3_nextWithHay_4 : decode cX3_nextWithHay 4 = .ok (.getfield 31, 3) := by decide +kernel
theorem dX3_nextWithHay_7 : decode cX3_nextWithHay 7 = .ok (.if_icmp .ge 47, 3) := by decide +kernel
theorem dX3_nextWithHay_10 : decode cX3_nextWithHay 10 = .ok (.aload_n 1, 1) := by decide +kernel
theorem dX3_nextWithHay_11 : decode cX3_nextWithHay 11 = .ok (.getfield 117, 3) := by decide +kernel
theorem dX3_nextWithHay_14 : decode cX3_nextWithHay 14 = .ok (.iload_n 2, 1) := by decide +kernel
theorem dX3_nextWithHay_15 : decode cX3_nextWithHay 15 = .ok (.iadd, 1) := by decide +kernel
theorem dX3_nextWithHay_16 : decode cX3_nextWithHay 16 = .ok (.istore_n 3, 1) := by decide +kernel
theorem dX3_nextWithHay_17 : decode cX3_nextWithHay 17 = .ok (.iload_n 3, 1) := by decide +kernel
theorem dX3_nextWithHay_18 : decode cX3_nextWithHay 18 = .ok (.aload_n 0, 1) := by decide +kernel
theorem dX3_nextWithHay_19 : decode cX3_nextWithHay 19 = .ok (.getfield 31, 3) := by decide +kernel
theorem dX3_nextWithHay_22 : decode cX3_nextWithHay 22 = .ok (.if_icmp .lt 10, 3) := by decide +kernel
theorem dX3_nextWithHay_25 : decode cX3_nextWithHay 25 = .ok (.iload_n 3, 1) := by decide +kernel
theorem dX3_nextWithHay_26 : decode cX3_nextWithHay 26 = .ok (.aload_n 0, 1) := by decide +kernel
theorem dX3_nextWithHay_27 : decode cX3_nextWithHay 27 = .ok (.getfield 31, 3) := by decide +kernel
theorem dX3_nextWithHay_30 : decode cX3_nextWithHay 30 = .ok (.isub, 1) := by decide +kernel
theorem dX3_nextWithHay_31 : decode cX3_nextWithHay 31 = .ok (.istore_n 3, 1) := by decide +kernel
theorem dX3_nextWithHay_32 : decode cX3_nextWithHay 32 = .ok (.aload_n 0, 1) := by decide +kernel
theorem dX3_nextWithHay_33 : decode cX3_nextWithHay 33 = .ok (.aload_n 0, 1) := by decide +kernel
theorem dX3_nextWithHay_34 : decode cX3_nextWithHay 34 = .ok (.getfield 11, 3) := by decide +kernel
theorem dX3_nextWithHay_37 : decode cX3_nextWithHay 37 = .ok (.iload_n 3, 1) := by decide +kernel
theorem dX3_nextWithHay_38 : decode cX3_nextWithHay 38 = .ok (.aaload, 1) := by decide +kernel
theorem dX3_nextWithHay_39 : decode cX3_nextWithHay 39 = .ok (.aload_n 1, 1) := by decide +kernel
theorem dX3_nextWithHay_40 : decode cX3_nextWithHay 40 = .ok (.invokevirtual 120, 3) := by decide +kernel
theorem dX3_nextWithHay_43 : decode cX3_nextWithHay 43 = .ok (.ifCond .eq 5, 3) := by decide +kernel
theorem dX3_nextWithHay_46 : decode cX3_nextWithHay 46 = .ok (.iload_n 3, 1) := by decide +kernel
theorem dX3_nextWithHay_47 : decode cX3_nextWithHay 47 = .ok (.ireturn, 1) := by decide +kernel
theorem dX3_nextWithHay_48 : decode cX3_nextWithHay 48 = .ok (.iinc 2 1, 3) := by decide +kernel
theorem dX3_nextWithHay_51 : decode cX3_nextWithHay 51 = .ok (.goto (-49), 3) := by decide +kernel
theorem dX3_nextWithHay_54 : decode cX3_nextWithHay 54 = .ok (.iconst (-1), 1) := by decide +kernel
theorem dX3_nextWithHay_55 : decode cX3_nextWithHay 55 = .ok (.ireturn, 1) := by decide +kernel
theorem dX3_fullestCart_0 : decode cX3_fullestCart 0 = .ok (.iconst (-1), 1) := by decide +kernel
theorem dX3_fullestCart_1 : decode cX3_fullestCart 1 = .ok (.istore_n 2, 1) := by decide +kernel
theorem dX3_fullestCart_2 : decode cX3_fullestCart 2 = .ok (.iconst 0, 1) := by decide +kernel
theorem dX3_fullestCart_3 : decode cX3_fullestCart 3 = .ok (.istore_n 3, 1) := by decide +kernel
theorem dX3_fullestCart_4 : decode cX3_fullestCart 4 = .ok (.iconst 0, 1) := by decide +kernel
theorem dX3_fullestCart_5 : decode cX3_fullestCart 5 = .ok (.istore 4, 2) := by decide +kernel
theorem dX3_fullestCart_7 : decode cX3_fullestCart 7 = .ok (.iload 4, 2) := by decide +kernel
theorem dX3_fullestCart_9 : decode cX3_fullestCart 9 = .ok (.aload_n 0, 1) := by decide +kernel
theorem dX3_fullestCart_10 : decode cX3_fullestCart 10 = .ok (.getfield 31, 3) := by decide +kernel
theorem dX3_fullestCart_13 : decode cX3_fullestCart 13 = .ok (.if_icmp .ge 58, 3) := by decide +kernel
theorem dX3_fullestCart_16 : decode cX3_fullestCart 16 = .ok (.aload_n 0, 1) := by decide +kernel
theorem dX3_fullestCart_17 : decode cX3_fullestCart 17 = .ok (.aload_n 0, 1) := by decide +kernel
theorem dX3_fullestCart_18 : decode cX3_fullestCart 18 = .ok (.getfield 11, 3) := by decide +kernel
theorem dX3_fullestCart_21 : decode cX3_fullestCart 21 = .ok (.iload 4, 2) := by decide +kernel
theorem dX3_fullestCart_23 : decode cX3_fullestCart 23 = .ok (.aaload, 1) := by decide +kernel
theorem dX3_fullestCart_24 : decode cX3_fullestCart 24 = .ok (.aload_n 1, 1) := by decide +kernel
theorem dX3_fullestCart_25 : decode cX3_fullestCart 25 = .ok (.invokevirtual 120, 3) := by decide +kernel
theorem dX3_fullestCart_28 : decode cX3_fullestCart 28 = .ok (.ifCond .eq 37, 3) := by decide +kernel
theorem dX3_fullestCart_31 : decode cX3_fullestCart 31 = .ok (.aload_n 0, 1) := by decide +kernel
theorem dX3_fullestCart_32 : decode cX3_fullestCart 32 = .ok (.getfield 11, 3) := by decide +kernel
theorem dX3_fullestCart_35 : decode cX3_fullestCart 35 = .ok (.iload 4, 2) := by decide +kernel
theorem dX3_fullestCart_37 : decode cX3_fullestCart 37 = .ok (.aaload, 1) := by decide +kernel
theorem dX3_fullestCart_38 : decode cX3_fullestCart 38 = .ok (.getfield 108, 3) := by decide +kernel
theorem dX3_fullestCart_41 : decode cX3_fullestCart 41 = .ok (.getfield 112, 3) := by decide +kernel
theorem dX3_fullestCart_44 : decode cX3_fullestCart 44 = .ok (.iload_n 3, 1) := by decide +kernel
theorem dX3_fullestCart_45 : decode cX3_fullestCart 45 = .ok (.if_icmp .le 20, 3) := by decide +kernel
theorem dX3_fullestCart_48 : decode cX3_fullestCart 48 = .ok (.aload_n 0, 1) := by decide +kernel
theorem dX3_fullestCart_49 : decode cX3_fullestCart 49 = .ok (.getfield 11, 3) := by decide +kernel
theorem dX3_fullestCart_52 : decode cX3_fullestCart 52 = .ok (.iload 4, 2) := by decide +kernel
theorem dX3_fullestCart_54 : decode cX3_fullestCart 54 = .ok (.aaload, 1) := by decide +kernel
theorem dX3_fullestCart_55 : decode cX3_fullestCart 55 = .ok (.getfield 108, 3) := by decide +kernel
theorem dX3_fullestCart_58 : decode cX3_fullestCart 58 = .ok (.getfield 112, 3) := by decide +kernel
theorem dX3_fullestCart_61 : decode cX3_fullestCart 61 = .ok (.istore_n 3, 1) := by decide +kernel
theorem dX3_fullestCart_62 : decode cX3_fullestCart 62 = .ok (.iload 4, 2) := by decide +kernel
theorem dX3_fullestCart_64 : decode cX3_fullestCart 64 = .ok (.istore_n 2, 1) := by decide +kernel
theorem dX3_fullestCart_65 : decode cX3_fullestCart 65 = .ok (.iinc 4 1, 3) := by decide +kernel
theorem dX3_fullestCart_68 : decode cX3_fullestCart 68 = .ok (.goto (-61), 3) := by decide +kernel
theorem dX3_fullestCart_71 : decode cX3_fullestCart 71 = .ok (.iload_n 2, 1) := by decide +kernel
theorem dX3_fullestCart_72 : decode cX3_fullestCart 72 = .ok (.ireturn, 1) := by decide +kernel
theorem dX3_greatestFarHeap_0 : decode cX3_greatestFarHeap 0 = .ok (.iconst (-1), 1) := by decide +kernel
theorem dX3_greatestFarHeap_1 : decode cX3_greatestFarHeap 1 = .ok (.istore_n 2, 1) := by decide +kernel
theorem dX3_greatestFarHeap_2 : decode cX3_greatestFarHeap 2 = .ok (.iconst 0, 1) := by decide +kernel
theorem dX3_greatestFarHeap_3 : decode cX3_greatestFarHeap 3 = .ok (.istore_n 3, 1) := by decide +kernel
theorem dX3_greatestFarHeap_4 : decode cX3_greatestFarHeap 4 = .ok (.iconst 0, 1) := by decide +kernel
theorem dX3_greatestFarHeap_5 : decode cX3_greatestFarHeap 5 = .ok (.istore 4, 2) := by decide +kernel
theorem dX3_greatestFarHeap_7 : decode cX3_greatestFarHeap 7 = .ok (.iload 4, 2) := by decide +kernel
theorem dX3_greatestFarHeap_9 : decode cX3_greatestFarHeap 9 = .ok (.aload_n 0, 1) := by decide +kernel
theorem dX3_greatestFarHeap_10 : decode cX3_greatestFarHeap 10 = .ok (.getfield 31, 3) := by decide +kernel
theorem dX3_greatestFarHeap_13 : decode cX3_greatestFarHeap 13 = .ok (.if_icmp .ge 55, 3) := by decide +kernel
theorem dX3_greatestFarHeap_16 : decode cX3_greatestFarHeap 16 = .ok (.aload_n 0, 1) := by decide +kernel
theorem dX3_greatestFarHeap_17 : decode cX3_greatestFarHeap 17 = .ok (.aload_n 0, 1) := by decide +kernel
theorem dX3_greatestFarHeap_18 : decode cX3_greatestFarHeap 18 = .ok (.getfield 11, 3) := by decide +kernel
theorem dX3_greatestFarHeap_21 : decode cX3_greatestFarHeap 21 = .ok (.iload 4, 2) := by decide +kernel
theorem dX3_greatestFarHeap_23 : decode cX3_greatestFarHeap 23 = .ok (.aaload, 1) := by decide +kernel
theorem dX3_greatestFarHeap_24 : decode cX3_greatestFarHeap 24 = .ok (.getfield 108, 3) := by decide +kernel
theorem dX3_greatestFarHeap_27 : decode cX3_greatestFarHeap 27 = .ok (.invokevirtual 124, 3) := by decide +kernel
theorem dX3_greatestFarHeap_30 : decode cX3_greatestFarHeap 30 = .ok (.invokevirtual 127, 3) := by decide +kernel
theorem dX3_greatestFarHeap_33 : decode cX3_greatestFarHeap 33 = .ok (.istore 5, 2) := by decide +kernel
theorem dX3_greatestFarHeap_35 : decode cX3_greatestFarHeap 35 = .ok (.aload_n 0, 1) := by decide +kernel
theorem dX3_greatestFarHeap_36 : decode cX3_greatestFarHeap 36 = .ok (.aload_n 0, 1) := by decide +kernel
theorem dX3_greatestFarHeap_37 : decode cX3_greatestFarHeap 37 = .ok (.getfield 11, 3) := by decide +kernel
theorem dX3_greatestFarHeap_40 : decode cX3_greatestFarHeap 40 = .ok (.iload 4, 2) := by decide +kernel
theorem dX3_greatestFarHeap_42 : decode cX3_greatestFarHeap 42 = .ok (.aaload, 1) := by decide +kernel
theorem dX3_greatestFarHeap_43 : decode cX3_greatestFarHeap 43 = .ok (.aload_n 1, 1) := by decide +kernel
theorem dX3_greatestFarHeap_44 : decode cX3_greatestFarHeap 44 = .ok (.invokevirtual 120, 3) := by decide +kernel
theorem dX3_greatestFarHeap_47 : decode cX3_greatestFarHeap 47 = .ok (.ifCond .eq 15, 3) := by decide +kernel
theorem dX3_greatestFarHeap_50 : decode cX3_greatestFarHeap 50 = .ok (.iload 5, 2) := by decide +kernel
theorem dX3_greatestFarHeap_52 : decode cX3_greatestFarHeap 52 = .ok (.iload_n 3, 1) := by decide +kernel
theorem dX3_greatestFarHeap_53 : decode cX3_greatestFarHeap 53 = .ok (.if_icmp .le 9, 3) := by decide +kernel
theorem dX3_greatestFarHeap_56 : decode cX3_greatestFarHeap 56 = .ok (.iload 5, 2) := by decide +kernel
theorem dX3_greatestFarHeap_58 : decode cX3_greatestFarHeap 58 = .ok (.istore_n 3, 1) := by decide +kernel
theorem dX3_greatestFarHeap_59 : decode cX3_greatestFarHeap 59 = .ok (.iload 4, 2) := by decide +kernel
theorem dX3_greatestFarHeap_61 : decode cX3_greatestFarHeap 61 = .ok (.istore_n 2, 1) := by decide +kernel
theorem dX3_greatestFarHeap_62 : decode cX3_greatestFarHeap 62 = .ok (.iinc 4 1, 3) := by decide +kernel
theorem dX3_greatestFarHeap_65 : decode cX3_greatestFarHeap 65 = .ok (.goto (-58), 3) := by decide +kernel
theorem dX3_greatestFarHeap_68 : decode cX3_greatestFarHeap 68 = .ok (.iload_n 2, 1) := by decide +kernel
theorem dX3_greatestFarHeap_69 : decode cX3_greatestFarHeap 69 = .ok (.ireturn, 1) := by decide +kernel
theorem dX3_runMinutes_0 : decode cX3_runMinutes 0 = .ok (.iconst 0, 1) := by decide +kernel
theorem dX3_runMinutes_1 : decode cX3_runMinutes 1 = .ok (.istore_n 2, 1) := by decide +kernel
theorem dX3_runMinutes_2 : decode cX3_runMinutes 2 = .ok (.iload_n 2, 1) := by decide +kernel
theorem dX3_runMinutes_3 : decode cX3_runMinutes 3 = .ok (.iload_n 1, 1) := by decide +kernel
theorem dX3_runMinutes_4 : decode cX3_runMinutes 4 = .ok (.if_icmp .ge 57, 3) := by decide +kernel
theorem dX3_runMinutes_7 : decode cX3_runMinutes 7 = .ok (.iconst 0, 1) := by decide +kernel
theorem dX3_runMinutes_8 : decode cX3_runMinutes 8 = .ok (.istore_n 3, 1) := by decide +kernel
theorem dX3_runMinutes_9 : decode cX3_runMinutes 9 = .ok (.iload_n 3, 1) := by decide +kernel
theorem dX3_runMinutes_10 : decode cX3_runMinutes 10 = .ok (.aload_n 0, 1) := by decide +kernel
theorem dX3_runMinutes_11 : decode cX3_runMinutes 11 = .ok (.getfield 31, 3) := by decide +kernel
theorem dX3_runMinutes_14 : decode cX3_runMinutes 14 = .ok (.if_icmp .ge 31, 3) := by decide +kernel
theorem dX3_runMinutes_17 : decode cX3_runMinutes 17 = .ok (.aload_n 0, 1) := by decide +kernel
theorem dX3_runMinutes_18 : decode cX3_runMinutes 18 = .ok (.getfield 11, 3) := by decide +kernel
theorem dX3_runMinutes_21 : decode cX3_runMinutes 21 = .ok (.iload_n 3, 1) := by decide +kernel
theorem dX3_runMinutes_22 : decode cX3_runMinutes 22 = .ok (.aaload, 1) := by decide +kernel
theorem dX3_runMinutes_23 : decode cX3_runMinutes 23 = .ok (.getfield 70, 3) := by decide +kernel
theorem dX3_runMinutes_26 : decode cX3_runMinutes 26 = .ok (.ifCond .ne 13, 3) := by decide +kernel
theorem dX3_runMinutes_29 : decode cX3_runMinutes 29 = .ok (.aload_n 0, 1) := by decide +kernel
theorem dX3_runMinutes_30 : decode cX3_runMinutes 30 = .ok (.aload_n 0, 1) := by decide +kernel
theorem dX3_runMinutes_31 : decode cX3_runMinutes 31 = .ok (.getfield 11, 3) := by decide +kernel
theorem dX3_runMinutes_34 : decode cX3_runMinutes 34 = .ok (.iload_n 3, 1) := by decide +kernel
theorem dX3_runMinutes_35 : decode cX3_runMinutes 35 = .ok (.aaload, 1) := by decide +kernel
theorem dX3_runMinutes_36 : decode cX3_runMinutes 36 = .ok (.invokevirtual 130, 3) := by decide +kernel
theorem dX3_runMinutes_39 : decode cX3_runMinutes 39 = .ok (.iinc 3 1, 3) := by decide +kernel
theorem dX3_runMinutes_42 : decode cX3_runMinutes 42 = .ok (.goto (-33), 3) := by decide +kernel
theorem dX3_runMinutes_45 : decode cX3_runMinutes 45 = .ok (.aload_n 0, 1) := by decide +kernel
theorem dX3_runMinutes_46 : decode cX3_runMinutes 46 = .ok (.dup, 1) := by decide +kernel
theorem dX3_runMinutes_47 : decode cX3_runMinutes 47 = .ok (.getfield 38, 3) := by decide +kernel
theorem dX3_runMinutes_50 : decode cX3_runMinutes 50 = .ok (.iconst 1, 1) := by decide +kernel
theorem dX3_runMinutes_51 : decode cX3_runMinutes 51 = .ok (.iadd, 1) := by decide +kernel
theorem dX3_runMinutes_52 : decode cX3_runMinutes 52 = .ok (.putfield 38, 3) := by decide +kernel
theorem dX3_runMinutes_55 : decode cX3_runMinutes 55 = .ok (.iinc 2 1, 3) := by decide +kernel
theorem dX3_runMinutes_58 : decode cX3_runMinutes 58 = .ok (.goto (-56), 3) := by decide +kernel
theorem dX3_runMinutes_61 : decode cX3_runMinutes 61 = .ok (.return_, 1) := by decide +kernel
theorem dX3_takeTurn_0 : decode cX3_takeTurn 0 = .ok (.aload_n 1, 1) := by decide +kernel
theorem dX3_takeTurn_1 : decode cX3_takeTurn 1 = .ok (.getfield 134, 3) := by decide +kernel
theorem dX3_takeTurn_4 : decode cX3_takeTurn 4 = .ok (.iconst (-1), 1) := by decide +kernel
theorem dX3_takeTurn_5 : decode cX3_takeTurn 5 = .ok (.if_icmp .ne 16, 3) := by decide +kernel
theorem dX3_takeTurn_8 : decode cX3_takeTurn 8 = .ok (.aload_n 1, 1) := by decide +kernel
theorem dX3_takeTurn_9 : decode cX3_takeTurn 9 = .ok (.getfield 137, 3) := by decide +kernel
theorem dX3_takeTurn_12 : decode cX3_takeTurn 12 = .ok (.iconst (-1), 1) := by decide +kernel
theorem dX3_takeTurn_13 : decode cX3_takeTurn 13 = .ok (.if_icmp .ne 8, 3) := by decide +kernel
theorem dX3_takeTurn_16 : decode cX3_takeTurn 16 = .ok (.aload_n 0, 1) := by decide +kernel
theorem dX3_takeTurn_17 : decode cX3_takeTurn 17 = .ok (.aload_n 1, 1) := by decide +kernel
theorem dX3_takeTurn_18 : decode cX3_takeTurn 18 = .ok (.invokevirtual 140, 3) := by decide +kernel
theorem dX3_takeTurn_21 : decode cX3_takeTurn 21 = .ok (.iconst 1, 1) := by decide +kernel
theorem dX3_takeTurn_22 : decode cX3_takeTurn 22 = .ok (.istore_n 2, 1) := by decide +kernel
theorem dX3_takeTurn_23 : decode cX3_takeTurn 23 = .ok (.aload_n 1, 1) := by decide +kernel
theorem dX3_takeTurn_24 : decode cX3_takeTurn 24 = .ok (.getfield 134, 3) := by decide +kernel
theorem dX3_takeTurn_27 : decode cX3_takeTurn 27 = .ok (.iconst (-1), 1) := by decide +kernel
theorem dX3_takeTurn_28 : decode cX3_takeTurn 28 = .ok (.if_icmp .eq 11, 3) := by decide +kernel
theorem dX3_takeTurn_31 : decode cX3_takeTurn 31 = .ok (.aload_n 0, 1) := by decide +kernel
theorem dX3_takeTurn_32 : decode cX3_takeTurn 32 = .ok (.aload_n 1, 1) := by decide +kernel
theorem dX3_takeTurn_33 : decode cX3_takeTurn 33 = .ok (.invokevirtual 143, 3) := by decide +kernel
theorem dX3_takeTurn_36 : decode cX3_takeTurn 36 = .ok (.goto 41, 3) := by decide +kernel
theorem dX3_takeTurn_39 : decode cX3_takeTurn 39 = .ok (.aload_n 1, 1) := by decide +kernel
theorem dX3_takeTurn_40 : decode cX3_takeTurn 40 = .ok (.getfield 137, 3) := by decide +kernel
theorem dX3_takeTurn_43 : decode cX3_takeTurn 43 = .ok (.iconst (-1), 1) := by decide +kernel
theorem dX3_takeTurn_44 : decode cX3_takeTurn 44 = .ok (.if_icmp .eq 11, 3) := by decide +kernel
theorem dX3_takeTurn_47 : decode cX3_takeTurn 47 = .ok (.aload_n 0, 1) := by decide +kernel
theorem dX3_takeTurn_48 : decode cX3_takeTurn 48 = .ok (.aload_n 1, 1) := by decide +kernel
theorem dX3_takeTurn_49 : decode cX3_takeTurn 49 = .ok (.invokevirtual 146, 3) := by decide +kernel
theorem dX3_takeTurn_52 : decode cX3_takeTurn 52 = .ok (.goto 25, 3) := by decide +kernel
theorem dX3_takeTurn_55 : decode cX3_takeTurn 55 = .ok (.aload_n 0, 1) := by decide +kernel
theorem dX3_takeTurn_56 : decode cX3_takeTurn 56 = .ok (.aload_n 1, 1) := by decide +kernel
theorem dX3_takeTurn_57 : decode cX3_takeTurn 57 = .ok (.invokevirtual 149, 3) := by decide +kernel
theorem dX3_takeTurn_60 : decode cX3_takeTurn 60 = .ok (.ifCond .ne 11, 3) := by decide +kernel
theorem dX3_takeTurn_63 : decode cX3_takeTurn 63 = .ok (.aload_n 0, 1) := by decide +kernel
theorem dX3_takeTurn_64 : decode cX3_takeTurn 64 = .ok (.aload_n 1, 1) := by decide +kernel
theorem dX3_takeTurn_65 : decode cX3_takeTurn 65 = .ok (.invokevirtual 153, 3) := by decide +kernel
theorem dX3_takeTurn_68 : decode cX3_takeTurn 68 = .ok (.ifCond .eq 7, 3) := by decide +kernel
theorem dX3_takeTurn_71 : decode cX3_takeTurn 71 = .ok (.iconst 1, 1) := by decide +kernel
theorem dX3_takeTurn_72 : decode cX3_takeTurn 72 = .ok (.goto 4, 3) := by decide +kernel
theorem dX3_takeTurn_75 : decode cX3_takeTurn 75 = .ok (.iconst 0, 1) := by decide +kernel
theorem dX3_takeTurn_76 : decode cX3_takeTurn 76 = .ok (.istore_n 2, 1) := by decide +kernel
theorem dX3_takeTurn_77 : decode cX3_takeTurn 77 = .ok (.iload_n 2, 1) := by decide +kernel
theorem dX3_takeTurn_78 : decode cX3_takeTurn 78 = .ok (.ifCond .eq 11, 3) := by decide +kernel
theorem dX3_takeTurn_81 : decode cX3_takeTurn 81 = .ok (.aload_n 1, 1) := by decide +kernel
theorem dX3_takeTurn_82 : decode cX3_takeTurn 82 = .ok (.iconst 0, 1) := by decide +kernel
theorem dX3_takeTurn_83 : decode cX3_takeTurn 83 = .ok (.putfield 156, 3) := by decide +kernel
theorem dX3_takeTurn_86 : decode cX3_takeTurn 86 = .ok (.goto 7, 3) := by decide +kernel
theorem dX3_takeTurn_89 : decode cX3_takeTurn 89 = .ok (.aload_n 1, 1) := by decide +kernel
theorem dX3_takeTurn_90 : decode cX3_takeTurn 90 = .ok (.invokevirtual 159, 3) := by decide +kernel
theorem dX3_takeTurn_93 : decode cX3_takeTurn 93 = .ok (.return_, 1) := by decide +kernel
theorem dX3_takeFromOwnCart_0 : decode cX3_takeFromOwnCart 0 = .ok (.aload_n 1, 1) := by decide +kernel
theorem dX3_takeFromOwnCart_1 : decode cX3_takeFromOwnCart 1 = .ok (.getfield 108, 3) := by decide +kernel
theorem dX3_takeFromOwnCart_4 : decode cX3_takeFromOwnCart 4 = .ok (.invokevirtual 162, 3) := by decide +kernel
theorem dX3_takeFromOwnCart_7 : decode cX3_takeFromOwnCart 7 = .ok (.istore_n 2, 1) := by decide +kernel
theorem dX3_takeFromOwnCart_8 : decode cX3_takeFromOwnCart 8 = .ok (.iload_n 2, 1) := by decide +kernel
theorem dX3_takeFromOwnCart_9 : decode cX3_takeFromOwnCart 9 = .ok (.iconst (-1), 1) := by decide +kernel
theorem dX3_takeFromOwnCart_10 : decode cX3_takeFromOwnCart 10 = .ok (.if_icmp .eq 13, 3) := by decide +kernel
theorem dX3_takeFromOwnCart_13 : decode cX3_takeFromOwnCart 13 = .ok (.aload_n 1, 1) := by decide +kernel
theorem dX3_takeFromOwnCart_14 : decode cX3_takeFromOwnCart 14 = .ok (.iload_n 2, 1) := by decide +kernel
theorem dX3_takeFromOwnCart_15 : decode cX3_takeFromOwnCart 15 = .ok (.aload_n 0, 1) := by decide +kernel
theorem dX3_takeFromOwnCart_16 : decode cX3_takeFromOwnCart 16 = .ok (.iload_n 2, 1) := by decide +kernel
theorem dX3_takeFromOwnCart_17 : decode cX3_takeFromOwnCart 17 = .ok (.invokevirtual 127, 3) := by decide +kernel
theorem dX3_takeFromOwnCart_20 : decode cX3_takeFromOwnCart 20 = .ok (.invokevirtual 165, 3) := by decide +kernel
theorem dX3_takeFromOwnCart_23 : decode cX3_takeFromOwnCart 23 = .ok (.return_, 1) := by decide +kernel
theorem dX3_joinHalves_0 : decode cX3_joinHalves 0 = .ok (.aload_n 1, 1) := by decide +kernel
theorem dX3_joinHalves_1 : decode cX3_joinHalves 1 = .ok (.getfield 134, 3) := by decide +kernel
theorem dX3_joinHalves_4 : decode cX3_joinHalves 4 = .ok (.istore_n 2, 1) := by decide +kernel
theorem dX3_joinHalves_5 : decode cX3_joinHalves 5 = .ok (.aload_n 1, 1) := by decide +kernel
theorem dX3_joinHalves_6 : decode cX3_joinHalves 6 = .ok (.iconst (-1), 1) := by decide +kernel
theorem dX3_joinHalves_7 : decode cX3_joinHalves 7 = .ok (.putfield 134, 3) := by decide +kernel
theorem dX3_joinHalves_10 : decode cX3_joinHalves 10 = .ok (.aload_n 0, 1) := by decide +kernel
theorem dX3_joinHalves_11 : decode cX3_joinHalves 11 = .ok (.dup, 1) := by decide +kernel
theorem dX3_joinHalves_12 : decode cX3_joinHalves 12 = .ok (.getfield 47, 3) := by decide +kernel
theorem dX3_joinHalves_15 : decode cX3_joinHalves 15 = .ok (.iconst 1, 1) := by decide +kernel
theorem dX3_joinHalves_16 : decode cX3_joinHalves 16 = .ok (.iadd, 1) := by decide +kernel
theorem dX3_joinHalves_17 : decode cX3_joinHalves 17 = .ok (.putfield 47, 3) := by decide +kernel
theorem dX3_joinHalves_20 : decode cX3_joinHalves 20 = .ok (.aload_n 0, 1) := by decide +kernel
theorem dX3_joinHalves_21 : decode cX3_joinHalves 21 = .ok (.aload_n 1, 1) := by decide +kernel
theorem dX3_joinHalves_22 : decode cX3_joinHalves 22 = .ok (.iload_n 2, 1) := by decide +kernel
theorem dX3_joinHalves_23 : decode cX3_joinHalves 23 = .ok (.invokevirtual 168, 3) := by decide +kernel
theorem dX3_joinHalves_26 : decode cX3_joinHalves 26 = .ok (.return_, 1) := by decide +kernel
theorem dX3_workOnHeap_0 : decode cX3_workOnHeap 0 = .ok (.aload_n 1, 1) := by decide +kernel
theorem dX3_workOnHeap_1 : decode cX3_workOnHeap 1 = .ok (.getfield 172, 3) := by decide +kernel
theorem dX3_workOnHeap_4 : decode cX3_workOnHeap 4 = .ok (.aload_n 0, 1) := by decide +kernel
theorem dX3_workOnHeap_5 : decode cX3_workOnHeap 5 = .ok (.aload_n 1, 1) := by decide +kernel
theorem dX3_workOnHeap_6 : decode cX3_workOnHeap 6 = .ok (.getfield 137, 3) := by decide +kernel
theorem dX3_workOnHeap_9 : decode cX3_workOnHeap 9 = .ok (.invokevirtual 127, 3) := by decide +kernel
theorem dX3_workOnHeap_12 : decode cX3_workOnHeap 12 = .ok (.if_icmp .ne 7, 3) := by decide +kernel
theorem dX3_workOnHeap_15 : decode cX3_workOnHeap 15 = .ok (.iconst 1, 1) := by decide +kernel
theorem dX3_workOnHeap_16 : decode cX3_workOnHeap 16 = .ok (.goto 4, 3) := by decide +kernel
theorem dX3_workOnHeap_19 : decode cX3_workOnHeap 19 = .ok (.iconst 0, 1) := by decide +kernel
theorem dX3_workOnHeap_20 : decode cX3_workOnHeap 20 = .ok (.istore_n 2, 1) := by decide +kernel
theorem dX3_workOnHeap_21 : decode cX3_workOnHeap 21 = .ok (.iload_n 2, 1) := by decide +kernel
theorem dX3_workOnHeap_22 : decode cX3_workOnHeap 22 = .ok (.ifCond .eq 32, 3) := by decide +kernel
theorem dX3_workOnHeap_25 : decode cX3_workOnHeap 25 = .ok (.aload_n 1, 1) := by decide +kernel
theorem dX3_workOnHeap_26 : decode cX3_workOnHeap 26 = .ok (.getfield 172, 3) := by decide +kernel
theorem dX3_workOnHeap_29 : decode cX3_workOnHeap 29 = .ok (.aload_n 0, 1) := by decide +kernel
theorem dX3_workOnHeap_30 : decode cX3_workOnHeap 30 = .ok (.getfield 41, 3) := by decide +kernel
theorem dX3_workOnHeap_33 : decode cX3_workOnHeap 33 = .ok (.if_icmp .le 21, 3) := by decide +kernel
theorem dX3_workOnHeap_36 : decode cX3_workOnHeap 36 = .ok (.aload_n 1, 1) := by decide +kernel
theorem dX3_workOnHeap_37 : decode cX3_workOnHeap 37 = .ok (.getfield 108, 3) := by decide +kernel
theorem dX3_workOnHeap_40 : decode cX3_workOnHeap 40 = .ok (.invokevirtual 175, 3) := by decide +kernel
theorem dX3_workOnHeap_43 : decode cX3_workOnHeap 43 = .ok (.ifCond .eq 11, 3) := by decide +kernel
theorem dX3_workOnHeap_46 : decode cX3_workOnHeap 46 = .ok (.aload_n 0, 1) := by decide +kernel
theorem dX3_workOnHeap_47 : decode cX3_workOnHeap 47 = .ok (.aload_n 1, 1) := by decide +kernel
theorem dX3_workOnHeap_48 : decode cX3_workOnHeap 48 = .ok (.invokevirtual 179, 3) := by decide +kernel
theorem dX3_workOnHeap_51 : decode cX3_workOnHeap 51 = .ok (.goto 8, 3) := by decide +kernel
theorem dX3_workOnHeap_54 : decode cX3_workOnHeap 54 = .ok (.aload_n 0, 1) := by decide +kernel
theorem dX3_workOnHeap_55 : decode cX3_workOnHeap 55 = .ok (.aload_n 1, 1) := by decide +kernel
theorem dX3_workOnHeap_56 : decode cX3_workOnHeap 56 = .ok (.invokevirtual 182, 3) := by decide +kernel
theorem dX3_workOnHeap_59 : decode cX3_workOnHeap 59 = .ok (.return_, 1) := by decide +kernel
theorem dX3_forkHeap_0 : decode cX3_forkHeap 0 = .ok (.aload_n 1, 1) := by decide +kernel
theorem dX3_forkHeap_1 : decode cX3_forkHeap 1 = .ok (.getfield 137, 3) := by decide +kernel
theorem dX3_forkHeap_4 : decode cX3_forkHeap 4 = .ok (.istore_n 2, 1) := by decide +kernel
theorem dX3_forkHeap_5 : decode cX3_forkHeap 5 = .ok (.aload_n 1, 1) := by decide +kernel
theorem dX3_forkHeap_6 : decode cX3_forkHeap 6 = .ok (.getfield 172, 3) := by decide +kernel
theorem dX3_forkHeap_9 : decode cX3_forkHeap 9 = .ok (.istore_n 3, 1) := by decide +kernel
theorem dX3_forkHeap_10 : decode cX3_forkHeap 10 = .ok (.iload_n 2, 1) := by decide +kernel
theorem dX3_forkHeap_11 : decode cX3_forkHeap 11 = .ok (.iload_n 2, 1) := by decide +kernel
theorem dX3_forkHeap_12 : decode cX3_forkHeap 12 = .ok (.bipush 32, 2) := by decide +kernel
theorem dX3_forkHeap_14 : decode cX3_forkHeap 14 = .ok (.irem, 1) := by decide +kernel
theorem dX3_forkHeap_15 : decode cX3_forkHeap 15 = .ok (.iadd, 1) := by decide +kernel
theorem dX3_forkHeap_16 : decode cX3_forkHeap 16 = .ok (.istore 4, 2) := by decide +kernel
theorem dX3_forkHeap_18 : decode cX3_forkHeap 18 = .ok (.aload_n 0, 1) := by decide +kernel
theorem dX3_forkHeap_19 : decode cX3_forkHeap 19 = .ok (.iload 4, 2) := by decide +kernel
theorem dX3_forkHeap_21 : decode cX3_forkHeap 21 = .ok (.iload_n 3, 1) := by decide +kernel
theorem dX3_forkHeap_22 : decode cX3_forkHeap 22 = .ok (.iconst 2, 1) := by decide +kernel
theorem dX3_forkHeap_23 : decode cX3_forkHeap 23 = .ok (.idiv, 1) := by decide +kernel
theorem dX3_forkHeap_24 : decode cX3_forkHeap 24 = .ok (.invokevirtual 63, 3) := by decide +kernel
theorem dX3_forkHeap_27 : decode cX3_forkHeap 27 = .ok (.aload_n 0, 1) := by decide +kernel
theorem dX3_forkHeap_28 : decode cX3_forkHeap 28 = .ok (.iload 4, 2) := by decide +kernel
theorem dX3_forkHeap_30 : decode cX3_forkHeap 30 = .ok (.iconst 1, 1) := by decide +kernel
theorem dX3_forkHeap_31 : decode cX3_forkHeap 31 = .ok (.iadd, 1) := by decide +kernel
theorem dX3_forkHeap_32 : decode cX3_forkHeap 32 = .ok (.iload_n 3, 1) := by decide +kernel
theorem dX3_forkHeap_33 : decode cX3_forkHeap 33 = .ok (.iload_n 3, 1) := by decide +kernel
theorem dX3_forkHeap_34 : decode cX3_forkHeap 34 = .ok (.iconst 2, 1) := by decide +kernel
theorem dX3_forkHeap_35 : decode cX3_forkHeap 35 = .ok (.idiv, 1) := by decide +kernel
theorem dX3_forkHeap_36 : decode cX3_forkHeap 36 = .ok (.isub, 1) := by decide +kernel
theorem dX3_forkHeap_37 : decode cX3_forkHeap 37 = .ok (.invokevirtual 63, 3) := by decide +kernel
theorem dX3_forkHeap_40 : decode cX3_forkHeap 40 = .ok (.aload_n 0, 1) := by decide +kernel
theorem dX3_forkHeap_41 : decode cX3_forkHeap 41 = .ok (.iload_n 2, 1) := by decide +kernel
theorem dX3_forkHeap_42 : decode cX3_forkHeap 42 = .ok (.invokevirtual 185, 3) := by decide +kernel
theorem dX3_forkHeap_45 : decode cX3_forkHeap 45 = .ok (.dup, 1) := by decide +kernel
theorem dX3_forkHeap_46 : decode cX3_forkHeap 46 = .ok (.getfield 189, 3) := by decide +kernel
theorem dX3_forkHeap_49 : decode cX3_forkHeap 49 = .ok (.iconst 2, 1) := by decide +kernel
theorem dX3_forkHeap_50 : decode cX3_forkHeap 50 = .ok (.iadd, 1) := by decide +kernel
theorem dX3_forkHeap_51 : decode cX3_forkHeap 51 = .ok (.putfield 189, 3) := by decide +kernel
theorem dX3_forkHeap_54 : decode cX3_forkHeap 54 = .ok (.aload_n 0, 1) := by decide +kernel
theorem dX3_forkHeap_55 : decode cX3_forkHeap 55 = .ok (.dup, 1) := by decide +kernel
theorem dX3_forkHeap_56 : decode cX3_forkHeap 56 = .ok (.getfield 44, 3) := by decide +kernel
theorem dX3_forkHeap_59 : decode cX3_forkHeap 59 = .ok (.iconst 1, 1) := by decide +kernel
theorem dX3_forkHeap_60 : decode cX3_forkHeap 60 = .ok (.iadd, 1) := by decide +kernel
theorem dX3_forkHeap_61 : decode cX3_forkHeap 61 = .ok (.putfield 44, 3) := by decide +kernel
theorem dX3_forkHeap_64 : decode cX3_forkHeap 64 = .ok (.aload_n 1, 1) := by decide +kernel
theorem dX3_forkHeap_65 : decode cX3_forkHeap 65 = .ok (.iload 4, 2) := by decide +kernel
theorem dX3_forkHeap_67 : decode cX3_forkHeap 67 = .ok (.iload_n 3, 1) := by decide +kernel
theorem dX3_forkHeap_68 : decode cX3_forkHeap 68 = .ok (.iconst 2, 1) := by decide +kernel
theorem dX3_forkHeap_69 : decode cX3_forkHeap 69 = .ok (.idiv, 1) := by decide +kernel
theorem dX3_forkHeap_70 : decode cX3_forkHeap 70 = .ok (.invokevirtual 165, 3) := by decide +kernel
theorem dX3_forkHeap_73 : decode cX3_forkHeap 73 = .ok (.aload_n 1, 1) := by decide +kernel
theorem dX3_forkHeap_74 : decode cX3_forkHeap 74 = .ok (.getfield 108, 3) := by decide +kernel
theorem dX3_forkHeap_77 : decode cX3_forkHeap 77 = .ok (.iload 4, 2) := by decide +kernel
theorem dX3_forkHeap_79 : decode cX3_forkHeap 79 = .ok (.iconst 1, 1) := by decide +kernel
theorem dX3_forkHeap_80 : decode cX3_forkHeap 80 = .ok (.iadd, 1) := by decide +kernel
theorem dX3_forkHeap_81 : decode cX3_forkHeap 81 = .ok (.invokevirtual 192, 3) := by decide +kernel
theorem dX3_forkHeap_84 : decode cX3_forkHeap 84 = .ok (.aload_n 0, 1) := by decide +kernel
theorem dX3_forkHeap_85 : decode cX3_forkHeap 85 = .ok (.invokevirtual 195, 3) := by decide +kernel
theorem dX3_forkHeap_88 : decode cX3_forkHeap 88 = .ok (.return_, 1) := by decide +kernel
theorem dX3_wakeFirstSleeper_0 : decode cX3_wakeFirstSleeper 0 = .ok (.iconst 0, 1) := by decide +kernel
theorem dX3_wakeFirstSleeper_1 : decode cX3_wakeFirstSleeper 1 = .ok (.istore_n 1, 1) := by decide +kernel
theorem dX3_wakeFirstSleeper_2 : decode cX3_wakeFirstSleeper 2 = .ok (.iload_n 1, 1) := by decide +kernel
theorem dX3_wakeFirstSleeper_3 : decode cX3_wakeFirstSleeper 3 = .ok (.aload_n 0, 1) := by decide +kernel
theorem dX3_wakeFirstSleeper_4 : decode cX3_wakeFirstSleeper 4 = .ok (.getfield 31, 3) := by decide +kernel
theorem dX3_wakeFirstSleeper_7 : decode cX3_wakeFirstSleeper 7 = .ok (.if_icmp .ge 32, 3) := by decide +kernel
theorem dX3_wakeFirstSleeper_10 : decode cX3_wakeFirstSleeper 10 = .ok (.aload_n 0, 1) := by decide +kernel
theorem dX3_wakeFirstSleeper_11 : decode cX3_wakeFirstSleeper 11 = .ok (.getfield 11, 3) := by decide +kernel
theorem dX3_wakeFirstSleeper_14 : decode cX3_wakeFirstSleeper 14 = .ok (.iload_n 1, 1) := by decide +kernel
theorem dX3_wakeFirstSleeper_15 : decode cX3_wakeFirstSleeper 15 = .ok (.aaload, 1) := by decide +kernel
theorem dX3_wakeFirstSleeper_16 : decode cX3_wakeFirstSleeper 16 = .ok (.getfield 70, 3) := by decide +kernel
theorem dX3_wakeFirstSleeper_19 : decode cX3_wakeFirstSleeper 19 = .ok (.ifCond .eq 14, 3) := by decide +kernel
theorem dX3_wakeFirstSleeper_22 : decode cX3_wakeFirstSleeper 22 = .ok (.aload_n 0, 1) := by decide +kernel
theorem dX3_wakeFirstSleeper_23 : decode cX3_wakeFirstSleeper 23 = .ok (.getfield 11, 3) := by decide +kernel
theorem dX3_wakeFirstSleeper_26 : decode cX3_wakeFirstSleeper 26 = .ok (.iload_n 1, 1) := by decide +kernel
theorem dX3_wakeFirstSleeper_27 : decode cX3_wakeFirstSleeper 27 = .ok (.aaload, 1) := by decide +kernel
theorem dX3_wakeFirstSleeper_28 : decode cX3_wakeFirstSleeper 28 = .ok (.iconst 0, 1) := by decide +kernel
theorem dX3_wakeFirstSleeper_29 : decode cX3_wakeFirstSleeper 29 = .ok (.putfield 70, 3) := by decide +kernel
theorem dX3_wakeFirstSleeper_32 : decode cX3_wakeFirstSleeper 32 = .ok (.return_, 1) := by decide +kernel
theorem dX3_wakeFirstSleeper_33 : decode cX3_wakeFirstSleeper 33 = .ok (.iinc 1 1, 3) := by decide +kernel
theorem dX3_wakeFirstSleeper_36 : decode cX3_wakeFirstSleeper 36 = .ok (.goto (-34), 3) := by decide +kernel
theorem dX3_wakeFirstSleeper_39 : decode cX3_wakeFirstSleeper 39 = .ok (.return_, 1) := by decide +kernel
theorem dX3_pitch_0 : decode cX3_pitch 0 = .ok (.aload_n 1, 1) := by decide +kernel
theorem dX3_pitch_1 : decode cX3_pitch 1 = .ok (.getfield 172, 3) := by decide +kernel
theorem dX3_pitch_4 : decode cX3_pitch 4 = .ok (.aload_n 1, 1) := by decide +kernel
theorem dX3_pitch_5 : decode cX3_pitch 5 = .ok (.getfield 54, 3) := by decide +kernel
theorem dX3_pitch_8 : decode cX3_pitch 8 = .ok (.if_icmp .ge 10, 3) := by decide +kernel
theorem dX3_pitch_11 : decode cX3_pitch 11 = .ok (.aload_n 1, 1) := by decide +kernel
theorem dX3_pitch_12 : decode cX3_pitch 12 = .ok (.getfield 172, 3) := by decide +kernel
theorem dX3_pitch_15 : decode cX3_pitch 15 = .ok (.goto 7, 3) := by decide +kernel
theorem dX3_pitch_18 : decode cX3_pitch 18 = .ok (.aload_n 1, 1) := by decide +kernel
theorem dX3_pitch_19 : decode cX3_pitch 19 = .ok (.getfield 54, 3) := by decide +kernel
theorem dX3_pitch_22 : decode cX3_pitch 22 = .ok (.istore_n 2, 1) := by decide +kernel
theorem dX3_pitch_23 : decode cX3_pitch 23 = .ok (.aload_n 1, 1) := by decide +kernel
theorem dX3_pitch_24 : decode cX3_pitch 24 = .ok (.dup, 1) := by decide +kernel
theorem dX3_pitch_25 : decode cX3_pitch 25 = .ok (.getfield 172, 3) := by decide +kernel
theorem dX3_pitch_28 : decode cX3_pitch 28 = .ok (.iload_n 2, 1) := by decide +kernel
theorem dX3_pitch_29 : decode cX3_pitch 29 = .ok (.isub, 1) := by decide +kernel
theorem dX3_pitch_30 : decode cX3_pitch 30 = .ok (.putfield 172, 3) := by decide +kernel
theorem dX3_pitch_33 : decode cX3_pitch 33 = .ok (.aload_n 0, 1) := by decide +kernel
theorem dX3_pitch_34 : decode cX3_pitch 34 = .ok (.aload_n 1, 1) := by decide +kernel
theorem dX3_pitch_35 : decode cX3_pitch 35 = .ok (.getfield 137, 3) := by decide +kernel
theorem dX3_pitch_38 : decode cX3_pitch 38 = .ok (.invokevirtual 185, 3) := by decide +kernel
theorem dX3_pitch_41 : decode cX3_pitch 41 = .ok (.dup, 1) := by decide +kernel
theorem dX3_pitch_42 : decode cX3_pitch 42 = .ok (.getfield 198, 3) := by decide +kernel
theorem dX3_pitch_45 : decode cX3_pitch 45 = .ok (.iload_n 2, 1) := by decide +kernel
theorem dX3_pitch_46 : decode cX3_pitch 46 = .ok (.iadd, 1) := by decide +kernel
theorem dX3_pitch_47 : decode cX3_pitch 47 = .ok (.putfield 198, 3) := by decide +kernel
theorem dX3_pitch_50 : decode cX3_pitch 50 = .ok (.aload_n 1, 1) := by decide +kernel
theorem dX3_pitch_51 : decode cX3_pitch 51 = .ok (.getfield 172, 3) := by decide +kernel
theorem dX3_pitch_54 : decode cX3_pitch 54 = .ok (.ifCond .ne 12, 3) := by decide +kernel
theorem dX3_pitch_57 : decode cX3_pitch 57 = .ok (.aload_n 0, 1) := by decide +kernel
theorem dX3_pitch_58 : decode cX3_pitch 58 = .ok (.aload_n 1, 1) := by decide +kernel
theorem dX3_pitch_59 : decode cX3_pitch 59 = .ok (.aload_n 1, 1) := by decide +kernel
theorem dX3_pitch_60 : decode cX3_pitch 60 = .ok (.getfield 137, 3) := by decide +kernel
theorem dX3_pitch_63 : decode cX3_pitch 63 = .ok (.invokevirtual 168, 3) := by decide +kernel
theorem dX3_pitch_66 : decode cX3_pitch 66 = .ok (.return_, 1) := by decide +kernel
theorem dX3_finishHeap_0 : decode cX3_finishHeap 0 = .ok (.aload_n 1, 1) := by decide +kernel
theorem dX3_finishHeap_1 : decode cX3_finishHeap 1 = .ok (.iconst (-1), 1) := by decide +kernel
theorem dX3_finishHeap_2 : decode cX3_finishHeap 2 = .ok (.putfield 137, 3) := by decide +kernel
theorem dX3_finishHeap_5 : decode cX3_finishHeap 5 = .ok (.iload_n 2, 1) := by decide +kernel
theorem dX3_finishHeap_6 : decode cX3_finishHeap 6 = .ok (.ifCond .lt 10, 3) := by decide +kernel
theorem dX3_finishHeap_9 : decode cX3_finishHeap 9 = .ok (.iload_n 2, 1) := by decide +kernel
theorem dX3_finishHeap_10 : decode cX3_finishHeap 10 = .ok (.sipush 320, 3) := by decide +kernel
theorem dX3_finishHeap_13 : decode cX3_finishHeap 13 = .ok (.if_icmp .lt 4, 3) := by decide +kernel
theorem dX3_finishHeap_16 : decode cX3_finishHeap 16 = .ok (.return_, 1) := by decide +kernel
theorem dX3_finishHeap_17 : decode cX3_finishHeap 17 = .ok (.aload_n 0, 1) := by decide +kernel
theorem dX3_finishHeap_18 : decode cX3_finishHeap 18 = .ok (.getfield 27, 3) := by decide +kernel
theorem dX3_finishHeap_21 : decode cX3_finishHeap 21 = .ok (.iload_n 2, 1) := by decide +kernel
theorem dX3_finishHeap_22 : decode cX3_finishHeap 22 = .ok (.iconst 1, 1) := by decide +kernel
theorem dX3_finishHeap_23 : decode cX3_finishHeap 23 = .ok (.bastore, 1) := by decide +kernel
theorem dX3_finishHeap_24 : decode cX3_finishHeap 24 = .ok (.iload_n 2, 1) := by decide +kernel
theorem dX3_finishHeap_25 : decode cX3_finishHeap 25 = .ok (.bipush 32, 2) := by decide +kernel
theorem dX3_finishHeap_27 : decode cX3_finishHeap 27 = .ok (.irem, 1) := by decide +kernel
theorem dX3_finishHeap_28 : decode cX3_finishHeap 28 = .ok (.istore_n 3, 1) := by decide +kernel
theorem dX3_finishHeap_29 : decode cX3_finishHeap 29 = .ok (.iload_n 3, 1) := by decide +kernel
theorem dX3_finishHeap_30 : decode cX3_finishHeap 30 = .ok (.iconst 1, 1) := by decide +kernel
theorem dX3_finishHeap_31 : decode cX3_finishHeap 31 = .ok (.if_icmp .ne 27, 3) := by decide +kernel
theorem dX3_finishHeap_34 : decode cX3_finishHeap 34 = .ok (.aload_n 0, 1) := by decide +kernel
theorem dX3_finishHeap_35 : decode cX3_finishHeap 35 = .ok (.iload_n 2, 1) := by decide +kernel
theorem dX3_finishHeap_36 : decode cX3_finishHeap 36 = .ok (.invokevirtual 185, 3) := by decide +kernel
theorem dX3_finishHeap_39 : decode cX3_finishHeap 39 = .ok (.iconst 2, 1) := by decide +kernel
theorem dX3_finishHeap_40 : decode cX3_finishHeap 40 = .ok (.putfield 88, 3) := by decide +kernel
theorem dX3_finishHeap_43 : decode cX3_finishHeap 43 = .ok (.aload_n 0, 1) := by decide +kernel
theorem dX3_finishHeap_44 : decode cX3_finishHeap 44 = .ok (.iload_n 2, 1) := by decide +kernel
theorem dX3_finishHeap_45 : decode cX3_finishHeap 45 = .ok (.invokevirtual 185, 3) := by decide +kernel
theorem dX3_finishHeap_48 : decode cX3_finishHeap 48 = .ok (.aload_n 0, 1) := by decide +kernel
theorem dX3_finishHeap_49 : decode cX3_finishHeap 49 = .ok (.getfield 38, 3) := by decide +kernel
theorem dX3_finishHeap_52 : decode cX3_finishHeap 52 = .ok (.putfield 201, 3) := by decide +kernel
theorem dX3_finishHeap_55 : decode cX3_finishHeap 55 = .ok (.goto 27, 3) := by decide +kernel
theorem dX3_finishHeap_58 : decode cX3_finishHeap 58 = .ok (.aload_n 0, 1) := by decide +kernel
theorem dX3_finishHeap_59 : decode cX3_finishHeap 59 = .ok (.getfield 27, 3) := by decide +kernel
theorem dX3_finishHeap_62 : decode cX3_finishHeap 62 = .ok (.aload_n 0, 1) := by decide +kernel
theorem dX3_finishHeap_63 : decode cX3_finishHeap 63 = .ok (.iload_n 2, 1) := by decide +kernel
theorem dX3_finishHeap_64 : decode cX3_finishHeap 64 = .ok (.invokevirtual 204, 3) := by decide +kernel
theorem dX3_finishHeap_67 : decode cX3_finishHeap 67 = .ok (.baload, 1) := by decide +kernel
theorem dX3_finishHeap_68 : decode cX3_finishHeap 68 = .ok (.ifCond .eq 14, 3) := by decide +kernel
theorem dX3_finishHeap_71 : decode cX3_finishHeap 71 = .ok (.aload_n 1, 1) := by decide +kernel
theorem dX3_finishHeap_72 : decode cX3_finishHeap 72 = .ok (.iload_n 2, 1) := by decide +kernel
theorem dX3_finishHeap_73 : decode cX3_finishHeap 73 = .ok (.iload_n 3, 1) := by decide +kernel
theorem dX3_finishHeap_74 : decode cX3_finishHeap 74 = .ok (.isub, 1) := by decide +kernel
theorem dX3_finishHeap_75 : decode cX3_finishHeap 75 = .ok (.iload_n 3, 1) := by decide +kernel
theorem dX3_finishHeap_76 : decode cX3_finishHeap 76 = .ok (.iconst 2, 1) := by decide +kernel
theorem dX3_finishHeap_77 : decode cX3_finishHeap 77 = .ok (.idiv, 1) := by decide +kernel
theorem dX3_finishHeap_78 : decode cX3_finishHeap 78 = .ok (.iadd, 1) := by decide +kernel
theorem dX3_finishHeap_79 : decode cX3_finishHeap 79 = .ok (.putfield 134, 3) := by decide +kernel
theorem dX3_finishHeap_82 : decode cX3_finishHeap 82 = .ok (.return_, 1) := by decide +kernel
theorem dX3_otherHalf_0 : decode cX3_otherHalf 0 = .ok (.iload_n 1, 1) := by decide +kernel
theorem dX3_otherHalf_1 : decode cX3_otherHalf 1 = .ok (.iconst 1, 1) := by decide +kernel
theorem dX3_otherHalf_2 : decode cX3_otherHalf 2 = .ok (.ixor, 1) := by decide +kernel
theorem dX3_otherHalf_3 : decode cX3_otherHalf 3 = .ok (.ireturn, 1) := by decide +kernel
theorem dX3_takeFromYard_0 : decode cX3_takeFromYard 0 = .ok (.iconst 0, 1) := by decide +kernel
theorem dX3_takeFromYard_1 : decode cX3_takeFromYard 1 = .ok (.istore_n 2, 1) := by decide +kernel
theorem dX3_takeFromYard_2 : decode cX3_takeFromYard 2 = .ok (.iload_n 2, 1) := by decide +kernel
theorem dX3_takeFromYard_3 : decode cX3_takeFromYard 3 = .ok (.aload_n 0, 1) := by decide +kernel
theorem dX3_takeFromYard_4 : decode cX3_takeFromYard 4 = .ok (.getfield 35, 3) := by decide +kernel
theorem dX3_takeFromYard_7 : decode cX3_takeFromYard 7 = .ok (.if_icmp .ge 52, 3) := by decide +kernel
theorem dX3_takeFromYard_10 : decode cX3_takeFromYard 10 = .ok (.aload_n 0, 1) := by decide +kernel
theorem dX3_takeFromYard_11 : decode cX3_takeFromYard 11 = .ok (.getfield 19, 3) := by decide +kernel
theorem dX3_takeFromYard_14 : decode cX3_takeFromYard 14 = .ok (.iload_n 2, 1) := by decide +kernel
theorem dX3_takeFromYard_15 : decode cX3_takeFromYard 15 = .ok (.aaload, 1) := by decide +kernel
theorem dX3_takeFromYard_16 : decode cX3_takeFromYard 16 = .ok (.getfield 88, 3) := by decide +kernel
theorem dX3_takeFromYard_19 : decode cX3_takeFromYard 19 = .ok (.ifCond .ne 34, 3) := by decide +kernel
theorem dX3_takeFromYard_22 : decode cX3_takeFromYard 22 = .ok (.aload_n 0, 1) := by decide +kernel
theorem dX3_takeFromYard_23 : decode cX3_takeFromYard 23 = .ok (.getfield 19, 3) := by decide +kernel
theorem dX3_takeFromYard_26 : decode cX3_takeFromYard 26 = .ok (.iload_n 2, 1) := by decide +kernel
theorem dX3_takeFromYard_27 : decode cX3_takeFromYard 27 = .ok (.aaload, 1) := by decide +kernel
theorem dX3_takeFromYard_28 : decode cX3_takeFromYard 28 = .ok (.iconst 1, 1) := by decide +kernel
theorem dX3_takeFromYard_29 : decode cX3_takeFromYard 29 = .ok (.putfield 88, 3) := by decide +kernel
theorem dX3_takeFromYard_32 : decode cX3_takeFromYard 32 = .ok (.aload_n 1, 1) := by decide +kernel
theorem dX3_takeFromYard_33 : decode cX3_takeFromYard 33 = .ok (.iload_n 2, 1) := by decide +kernel
theorem dX3_takeFromYard_34 : decode cX3_takeFromYard 34 = .ok (.bipush 32, 2) := by decide +kernel
theorem dX3_takeFromYard_36 : decode cX3_takeFromYard 36 = .ok (.imul, 1) := by decide +kernel
theorem dX3_takeFromYard_37 : decode cX3_takeFromYard 37 = .ok (.iconst 1, 1) := by decide +kernel
theorem dX3_takeFromYard_38 : decode cX3_takeFromYard 38 = .ok (.iadd, 1) := by decide +kernel
theorem dX3_takeFromYard_39 : decode cX3_takeFromYard 39 = .ok (.aload_n 0, 1) := by decide +kernel
theorem dX3_takeFromYard_40 : decode cX3_takeFromYard 40 = .ok (.getfield 19, 3) := by decide +kernel
theorem dX3_takeFromYard_43 : decode cX3_takeFromYard 43 = .ok (.iload_n 2, 1) := by decide +kernel
theorem dX3_takeFromYard_44 : decode cX3_takeFromYard 44 = .ok (.aaload, 1) := by decide +kernel
theorem dX3_takeFromYard_45 : decode cX3_takeFromYard 45 = .ok (.getfield 57, 3) := by decide +kernel
theorem dX3_takeFromYard_48 : decode cX3_takeFromYard 48 = .ok (.invokevirtual 165, 3) := by decide +kernel
theorem dX3_takeFromYard_51 : decode cX3_takeFromYard 51 = .ok (.iconst 1, 1) := by decide +kernel
theorem dX3_takeFromYard_52 : decode cX3_takeFromYard 52 = .ok (.ireturn, 1) := by decide +kernel
theorem dX3_takeFromYard_53 : decode cX3_takeFromYard 53 = .ok (.iinc 2 1, 3) := by decide +kernel
theorem dX3_takeFromYard_56 : decode cX3_takeFromYard 56 = .ok (.goto (-54), 3) := by decide +kernel
theorem dX3_takeFromYard_59 : decode cX3_takeFromYard 59 = .ok (.iconst 0, 1) := by decide +kernel
theorem dX3_takeFromYard_60 : decode cX3_takeFromYard 60 = .ok (.ireturn, 1) := by decide +kernel
theorem dX3_steal_0 : decode cX3_steal 0 = .ok (.aload_n 0, 1) := by decide +kernel
theorem dX3_steal_1 : decode cX3_steal 1 = .ok (.aload_n 1, 1) := by decide +kernel
theorem dX3_steal_2 : decode cX3_steal 2 = .ok (.invokevirtual 207, 3) := by decide +kernel
theorem dX3_steal_5 : decode cX3_steal 5 = .ok (.istore_n 2, 1) := by decide +kernel
theorem dX3_steal_6 : decode cX3_steal 6 = .ok (.iload_n 2, 1) := by decide +kernel
theorem dX3_steal_7 : decode cX3_steal 7 = .ok (.ifCond .lt 11, 3) := by decide +kernel
theorem dX3_steal_10 : decode cX3_steal 10 = .ok (.iload_n 2, 1) := by decide +kernel
theorem dX3_steal_11 : decode cX3_steal 11 = .ok (.aload_n 0, 1) := by decide +kernel
theorem dX3_steal_12 : decode cX3_steal 12 = .ok (.getfield 31, 3) := by decide +kernel
theorem dX3_steal_15 : decode cX3_steal 15 = .ok (.if_icmp .lt 5, 3) := by decide +kernel
theorem dX3_steal_18 : decode cX3_steal 18 = .ok (.iconst 0, 1) := by decide +kernel
theorem dX3_steal_19 : decode cX3_steal 19 = .ok (.ireturn, 1) := by decide +kernel
theorem dX3_steal_20 : decode cX3_steal 20 = .ok (.aload_n 0, 1) := by decide +kernel
theorem dX3_steal_21 : decode cX3_steal 21 = .ok (.getfield 11, 3) := by decide +kernel
theorem dX3_steal_24 : decode cX3_steal 24 = .ok (.iload_n 2, 1) := by decide +kernel
theorem dX3_steal_25 : decode cX3_steal 25 = .ok (.aaload, 1) := by decide +kernel
theorem dX3_steal_26 : decode cX3_steal 26 = .ok (.getfield 108, 3) := by decide +kernel
theorem dX3_steal_29 : decode cX3_steal 29 = .ok (.invokevirtual 210, 3) := by decide +kernel
theorem dX3_steal_32 : decode cX3_steal 32 = .ok (.istore_n 3, 1) := by decide +kernel
theorem dX3_steal_33 : decode cX3_steal 33 = .ok (.aload_n 1, 1) := by decide +kernel
theorem dX3_steal_34 : decode cX3_steal 34 = .ok (.iload_n 3, 1) := by decide +kernel
theorem dX3_steal_35 : decode cX3_steal 35 = .ok (.aload_n 0, 1) := by decide +kernel
theorem dX3_steal_36 : decode cX3_steal 36 = .ok (.iload_n 3, 1) := by decide +kernel
theorem dX3_steal_37 : decode cX3_steal 37 = .ok (.invokevirtual 127, 3) := by decide +kernel
theorem dX3_steal_40 : decode cX3_steal 40 = .ok (.invokevirtual 165, 3) := by decide +kernel
theorem dX3_steal_43 : decode cX3_steal 43 = .ok (.aload_n 1, 1) := by decide +kernel
theorem dX3_steal_44 : decode cX3_steal 44 = .ok (.dup, 1) := by decide +kernel
theorem dX3_steal_45 : decode cX3_steal 45 = .ok (.getfield 213, 3) := by decide +kernel
theorem dX3_steal_48 : decode cX3_steal 48 = .ok (.iconst 1, 1) := by decide +kernel
theorem dX3_steal_49 : decode cX3_steal 49 = .ok (.iadd, 1) := by decide +kernel
theorem dX3_steal_50 : decode cX3_steal 50 = .ok (.putfield 213, 3) := by decide +kernel
theorem dX3_steal_53 : decode cX3_steal 53 = .ok (.aload_n 0, 1) := by decide +kernel
theorem dX3_steal_54 : decode cX3_steal 54 = .ok (.getfield 11, 3) := by decide +kernel
theorem dX3_steal_57 : decode cX3_steal 57 = .ok (.iload_n 2, 1) := by decide +kernel
theorem dX3_steal_58 : decode cX3_steal 58 = .ok (.aaload, 1) := by decide +kernel
theorem dX3_steal_59 : decode cX3_steal 59 = .ok (.dup, 1) := by decide +kernel
theorem dX3_steal_60 : decode cX3_steal 60 = .ok (.getfield 216, 3) := by decide +kernel
theorem dX3_steal_63 : decode cX3_steal 63 = .ok (.iconst 1, 1) := by decide +kernel
theorem dX3_steal_64 : decode cX3_steal 64 = .ok (.iadd, 1) := by decide +kernel
theorem dX3_steal_65 : decode cX3_steal 65 = .ok (.putfield 216, 3) := by decide +kernel
theorem dX3_steal_68 : decode cX3_steal 68 = .ok (.aload_n 0, 1) := by decide +kernel
theorem dX3_steal_69 : decode cX3_steal 69 = .ok (.iload_n 3, 1) := by decide +kernel
theorem dX3_steal_70 : decode cX3_steal 70 = .ok (.invokevirtual 185, 3) := by decide +kernel
theorem dX3_steal_73 : decode cX3_steal 73 = .ok (.dup, 1) := by decide +kernel
theorem dX3_steal_74 : decode cX3_steal 74 = .ok (.getfield 219, 3) := by decide +kernel
theorem dX3_steal_77 : decode cX3_steal 77 = .ok (.iconst 1, 1) := by decide +kernel
theorem dX3_steal_78 : decode cX3_steal 78 = .ok (.iadd, 1) := by decide +kernel
theorem dX3_steal_79 : decode cX3_steal 79 = .ok (.putfield 219, 3) := by decide +kernel
theorem dX3_steal_82 : decode cX3_steal 82 = .ok (.iconst 1, 1) := by decide +kernel
theorem dX3_steal_83 : decode cX3_steal 83 = .ok (.ireturn, 1) := by decide +kernel
theorem dX3_copyFrom_0 : decode cX3_copyFrom 0 = .ok (.iconst 0, 1) := by decide +kernel
theorem dX3_copyFrom_1 : decode cX3_copyFrom 1 = .ok (.istore_n 2, 1) := by decide +kernel
theorem dX3_copyFrom_2 : decode cX3_copyFrom 2 = .ok (.iload_n 2, 1) := by decide +kernel
theorem dX3_copyFrom_3 : decode cX3_copyFrom 3 = .ok (.aload_n 1, 1) := by decide +kernel
theorem dX3_copyFrom_4 : decode cX3_copyFrom 4 = .ok (.getfield 31, 3) := by decide +kernel
theorem dX3_copyFrom_7 : decode cX3_copyFrom 7 = .ok (.if_icmp .ge 24, 3) := by decide +kernel
theorem dX3_copyFrom_10 : decode cX3_copyFrom 10 = .ok (.aload_n 0, 1) := by decide +kernel
theorem dX3_copyFrom_11 : decode cX3_copyFrom 11 = .ok (.getfield 11, 3) := by decide +kernel
theorem dX3_copyFrom_14 : decode cX3_copyFrom 14 = .ok (.iload_n 2, 1) := by decide +kernel
theorem dX3_copyFrom_15 : decode cX3_copyFrom 15 = .ok (.aaload, 1) := by decide +kernel
theorem dX3_copyFrom_16 : decode cX3_copyFrom 16 = .ok (.aload_n 1, 1) := by decide +kernel
theorem dX3_copyFrom_17 : decode cX3_copyFrom 17 = .ok (.getfield 11, 3) := by decide +kernel
theorem dX3_copyFrom_20 : decode cX3_copyFrom 20 = .ok (.iload_n 2, 1) := by decide +kernel
theorem dX3_copyFrom_21 : decode cX3_copyFrom 21 = .ok (.aaload, 1) := by decide +kernel
theorem dX3_copyFrom_22 : decode cX3_copyFrom 22 = .ok (.invokevirtual 220, 3) := by decide +kernel
theorem dX3_copyFrom_25 : decode cX3_copyFrom 25 = .ok (.iinc 2 1, 3) := by decide +kernel
theorem dX3_copyFrom_28 : decode cX3_copyFrom 28 = .ok (.goto (-26), 3) := by decide +kernel
theorem dX3_copyFrom_31 : decode cX3_copyFrom 31 = .ok (.iconst 0, 1) := by decide +kernel
theorem dX3_copyFrom_32 : decode cX3_copyFrom 32 = .ok (.istore_n 2, 1) := by decide +kernel
theorem dX3_copyFrom_33 : decode cX3_copyFrom 33 = .ok (.iload_n 2, 1) := by decide +kernel
theorem dX3_copyFrom_34 : decode cX3_copyFrom 34 = .ok (.aload_n 1, 1) := by decide +kernel
theorem dX3_copyFrom_35 : decode cX3_copyFrom 35 = .ok (.getfield 35, 3) := by decide +kernel
theorem dX3_copyFrom_38 : decode cX3_copyFrom 38 = .ok (.if_icmp .ge 24, 3) := by decide +kernel
theorem dX3_copyFrom_41 : decode cX3_copyFrom 41 = .ok (.aload_n 0, 1) := by decide +kernel
theorem dX3_copyFrom_42 : decode cX3_copyFrom 42 = .ok (.getfield 19, 3) := by decide +kernel
theorem dX3_copyFrom_45 : decode cX3_copyFrom 45 = .ok (.iload_n 2, 1) := by decide +kernel
theorem dX3_copyFrom_46 : decode cX3_copyFrom 46 = .ok (.aaload, 1) := by decide +kernel
theorem dX3_copyFrom_47 : decode cX3_copyFrom 47 = .ok (.aload_n 1, 1) := by decide +kernel
theorem dX3_copyFrom_48 : decode cX3_copyFrom 48 = .ok (.getfield 19, 3) := by decide +kernel
theorem dX3_copyFrom_51 : decode cX3_copyFrom 51 = .ok (.iload_n 2, 1) := by decide +kernel
theorem dX3_copyFrom_52 : decode cX3_copyFrom 52 = .ok (.aaload, 1) := by decide +kernel
theorem dX3_copyFrom_53 : decode cX3_copyFrom 53 = .ok (.invokevirtual 223, 3) := by decide +kernel
theorem dX3_copyFrom_56 : decode cX3_copyFrom 56 = .ok (.iinc 2 1, 3) := by decide +kernel
theorem dX3_copyFrom_59 : decode cX3_copyFrom 59 = .ok (.goto (-26), 3) := by decide +kernel
theorem dX3_copyFrom_62 : decode cX3_copyFrom 62 = .ok (.aload_n 1, 1) := by decide +kernel
theorem dX3_copyFrom_63 : decode cX3_copyFrom 63 = .ok (.getfield 23, 3) := by decide +kernel
theorem dX3_copyFrom_66 : decode cX3_copyFrom 66 = .ok (.iconst 0, 1) := by decide +kernel
theorem dX3_copyFrom_67 : decode cX3_copyFrom 67 = .ok (.aload_n 0, 1) := by decide +kernel
theorem dX3_copyFrom_68 : decode cX3_copyFrom 68 = .ok (.getfield 23, 3) := by decide +kernel
theorem dX3_copyFrom_71 : decode cX3_copyFrom 71 = .ok (.iconst 0, 1) := by decide +kernel
theorem dX3_copyFrom_72 : decode cX3_copyFrom 72 = .ok (.sipush 320, 3) := by decide +kernel
theorem dX3_copyFrom_75 : decode cX3_copyFrom 75 = .ok (.invokestatic 226, 3) := by decide +kernel
theorem dX3_copyFrom_78 : decode cX3_copyFrom 78 = .ok (.aload_n 1, 1) := by decide +kernel
theorem dX3_copyFrom_79 : decode cX3_copyFrom 79 = .ok (.getfield 27, 3) := by decide +kernel
theorem dX3_copyFrom_82 : decode cX3_copyFrom 82 = .ok (.iconst 0, 1) := by decide +kernel
theorem dX3_copyFrom_83 : decode cX3_copyFrom 83 = .ok (.aload_n 0, 1) := by decide +kernel
theorem dX3_copyFrom_84 : decode cX3_copyFrom 84 = .ok (.getfield 27, 3) := by decide +kernel
theorem dX3_copyFrom_87 : decode cX3_copyFrom 87 = .ok (.iconst 0, 1) := by decide +kernel
theorem dX3_copyFrom_88 : decode cX3_copyFrom 88 = .ok (.sipush 320, 3) := by decide +kernel
theorem dX3_copyFrom_91 : decode cX3_copyFrom 91 = .ok (.invokestatic 226, 3) := by decide +kernel
theorem dX3_copyFrom_94 : decode cX3_copyFrom 94 = .ok (.aload_n 0, 1) := by decide +kernel
theorem dX3_copyFrom_95 : decode cX3_copyFrom 95 = .ok (.aload_n 1, 1) := by decide +kernel
theorem dX3_copyFrom_96 : decode cX3_copyFrom 96 = .ok (.getfield 31, 3) := by decide +kernel
theorem dX3_copyFrom_99 : decode cX3_copyFrom 99 = .ok (.putfield 31, 3) := by decide +kernel
theorem dX3_copyFrom_102 : decode cX3_copyFrom 102 = .ok (.aload_n 0, 1) := by decide +kernel
theorem dX3_copyFrom_103 : decode cX3_copyFrom 103 = .ok (.aload_n 1, 1) := by decide +kernel
theorem dX3_copyFrom_104 : decode cX3_copyFrom 104 = .ok (.getfield 35, 3) := by decide +kernel
theorem dX3_copyFrom_107 : decode cX3_copyFrom 107 = .ok (.putfield 35, 3) := by decide +kernel
theorem dX3_copyFrom_110 : decode cX3_copyFrom 110 = .ok (.aload_n 0, 1) := by decide +kernel
theorem dX3_copyFrom_111 : decode cX3_copyFrom 111 = .ok (.aload_n 1, 1) := by decide +kernel
theorem dX3_copyFrom_112 : decode cX3_copyFrom 112 = .ok (.getfield 38, 3) := by decide +kernel
theorem dX3_copyFrom_115 : decode cX3_copyFrom 115 = .ok (.putfield 38, 3) := by decide +kernel
theorem dX3_copyFrom_118 : decode cX3_copyFrom 118 = .ok (.aload_n 0, 1) := by decide +kernel
theorem dX3_copyFrom_119 : decode cX3_copyFrom 119 = .ok (.aload_n 1, 1) := by decide +kernel
theorem dX3_copyFrom_120 : decode cX3_copyFrom 120 = .ok (.getfield 41, 3) := by decide +kernel
theorem dX3_copyFrom_123 : decode cX3_copyFrom 123 = .ok (.putfield 41, 3) := by decide +kernel
theorem dX3_copyFrom_126 : decode cX3_copyFrom 126 = .ok (.aload_n 0, 1) := by decide +kernel
theorem dX3_copyFrom_127 : decode cX3_copyFrom 127 = .ok (.aload_n 1, 1) := by decide +kernel
theorem dX3_copyFrom_128 : decode cX3_copyFrom 128 = .ok (.getfield 44, 3) := by decide +kernel
theorem dX3_copyFrom_131 : decode cX3_copyFrom 131 = .ok (.putfield 44, 3) := by decide +kernel
theorem dX3_copyFrom_134 : decode cX3_copyFrom 134 = .ok (.aload_n 0, 1) := by decide +kernel
theorem dX3_copyFrom_135 : decode cX3_copyFrom 135 = .ok (.aload_n 1, 1) := by decide +kernel
theorem dX3_copyFrom_136 : decode cX3_copyFrom 136 = .ok (.getfield 47, 3) := by decide +kernel
theorem dX3_copyFrom_139 : decode cX3_copyFrom 139 = .ok (.putfield 47, 3) := by decide +kernel
theorem dX3_copyFrom_142 : decode cX3_copyFrom 142 = .ok (.return_, 1) := by decide +kernel
theorem dX4_init_0 : decode cX4_init 0 = .ok (.aload_n 0, 1) := by decide +kernel
theorem dX4_init_1 : decode cX4_init 1 = .ok (.invokespecial 3, 3) := by decide +kernel
theorem dX4_init_4 : decode cX4_init 4 = .ok (.aload_n 0, 1) := by decide +kernel
theorem dX4_init_5 : decode cX4_init 5 = .ok (.new 9, 3) := by decide +kernel
theorem dX4_init_8 : decode cX4_init 8 = .ok (.dup, 1) := by decide +kernel
theorem dX4_init_9 : decode cX4_init 9 = .ok (.invokespecial 11, 3) := by decide +kernel
theorem dX4_init_12 : decode cX4_init 12 = .ok (.putfield 12, 3) := by decide +kernel
theorem dX4_init_15 : decode cX4_init 15 = .ok (.aload_n 0, 1) := by decide +kernel
theorem dX4_init_16 : decode cX4_init 16 = .ok (.new 9, 3) := by decide +kernel
theorem dX4_init_19 : decode cX4_init 19 = .ok (.dup, 1) := by decide +kernel
theorem dX4_init_20 : decode cX4_init 20 = .ok (.invokespecial 11, 3) := by decide +kernel
theorem dX4_init_23 : decode cX4_init 23 = .ok (.putfield 16, 3) := by decide +kernel
theorem dX4_init_26 : decode cX4_init 26 = .ok (.return_, 1) := by decide +kernel
theorem dX4_come_0 : decode cX4_come 0 = .ok (.iload_n 1, 1) := by decide +kernel
theorem dX4_come_1 : decode cX4_come 1 = .ok (.iconst 1, 1) := by decide +kernel
theorem dX4_come_2 : decode cX4_come 2 = .ok (.if_icmp .lt 9, 3) := by decide +kernel
theorem dX4_come_5 : decode cX4_come 5 = .ok (.iload_n 1, 1) := by decide +kernel
theorem dX4_come_6 : decode cX4_come 6 = .ok (.bipush 9, 2) := by decide +kernel
theorem dX4_come_8 : decode cX4_come 8 = .ok (.if_icmp .le 13, 3) := by decide +kernel
theorem dX4_come_11 : decode cX4_come 11 = .ok (.new 19, 3) := by decide +kernel
theorem dX4_come_14 : decode cX4_come 14 = .ok (.dup, 1) := by decide +kernel
theorem dX4_come_15 : decode cX4_come 15 = .ok (.ldc 21, 2) := by decide +kernel
theorem dX4_come_17 : decode cX4_come 17 = .ok (.invokespecial 23, 3) := by decide +kernel
theorem dX4_come_20 : decode cX4_come 20 = .ok (.athrow, 1) := by decide +kernel
theorem dX4_come_21 : decode cX4_come 21 = .ok (.aload_n 0, 1) := by decide +kernel
theorem dX4_come_22 : decode cX4_come 22 = .ok (.getfield 12, 3) := by decide +kernel
theorem dX4_come_25 : decode cX4_come 25 = .ok (.getfield 26, 3) := by decide +kernel
theorem dX4_come_28 : decode cX4_come 28 = .ok (.bipush 6, 2) := by decide +kernel
theorem dX4_come_30 : decode cX4_come 30 = .ok (.if_icmp .lt 13, 3) := by decide +kernel
theorem dX4_come_33 : decode cX4_come 33 = .ok (.new 30, 3) := by decide +kernel
theorem dX4_come_36 : decode cX4_come 36 = .ok (.dup, 1) := by decide +kernel
theorem dX4_come_37 : decode cX4_come 37 = .ok (.ldc 32, 2) := by decide +kernel
theorem dX4_come_39 : decode cX4_come 39 = .ok (.invokespecial 34, 3) := by decide +kernel
theorem dX4_come_42 : decode cX4_come 42 = .ok (.athrow, 1) := by decide +kernel
theorem dX4_come_43 : decode cX4_come 43 = .ok (.aload_n 0, 1) := by decide +kernel
theorem dX4_come_44 : decode cX4_come 44 = .ok (.getfield 12, 3) := by decide +kernel
theorem dX4_come_47 : decode cX4_come 47 = .ok (.iload_n 1, 1) := by decide +kernel
theorem dX4_come_48 : decode cX4_come 48 = .ok (.invokevirtual 35, 3) := by decide +kernel
theorem dX4_come_51 : decode cX4_come 51 = .ok (.ireturn, 1) := by decide +kernel
theorem dX4_setWay_0 : decode cX4_setWay 0 = .ok (.aload_n 0, 1) := by decide +kernel
theorem dX4_setWay_1 : decode cX4_setWay 1 = .ok (.iload_n 1, 1) := by decide +kernel
theorem dX4_setWay_2 : decode cX4_setWay 2 = .ok (.invokevirtual 39, 3) := by decide +kernel
theorem dX4_setWay_5 : decode cX4_setWay 5 = .ok (.iload_n 2, 1) := by decide +kernel
theorem dX4_setWay_6 : decode cX4_setWay 6 = .ok (.ifCond .lt 8, 3) := by decide +kernel
theorem dX4_setWay_9 : decode cX4_setWay 9 = .ok (.iload_n 2, 1) := by decide +kernel
theorem dX4_setWay_10 : decode cX4_setWay 10 = .ok (.iconst 3, 1) := by decide +kernel
theorem dX4_setWay_11 : decode cX4_setWay 11 = .ok (.if_icmp .lt 13, 3) := by decide +kernel
theorem dX4_setWay_14 : decode cX4_setWay 14 = .ok (.new 43, 3) := by decide +kernel
theorem dX4_setWay_17 : decode cX4_setWay 17 = .ok (.dup, 1) := by decide +kernel
theorem dX4_setWay_18 : decode cX4_setWay 18 = .ok (.ldc 45, 2) := by decide +kernel
theorem dX4_setWay_20 : decode cX4_setWay 20 = .ok (.invokespecial 47, 3) := by decide +kernel
theorem dX4_setWay_23 : decode cX4_setWay 23 = .ok (.athrow, 1) := by decide +kernel
theorem dX4_setWay_24 : decode cX4_setWay 24 = .ok (.aload_n 0, 1) := by decide +kernel
theorem dX4_setWay_25 : decode cX4_setWay 25 = .ok (.getfield 12, 3) := by decide +kernel
theorem dX4_setWay_28 : decode cX4_setWay 28 = .ok (.getfield 48, 3) := by decide +kernel
theorem dX4_setWay_31 : decode cX4_setWay 31 = .ok (.iload_n 1, 1) := by decide +kernel
theorem dX4_setWay_32 : decode cX4_setWay 32 = .ok (.aaload, 1) := by decide +kernel
theorem dX4_setWay_33 : decode cX4_setWay 33 = .ok (.getfield 52, 3) := by decide +kernel
theorem dX4_setWay_36 : decode cX4_setWay 36 = .ok (.istore_n 3, 1) := by decide +kernel
theorem dX4_setWay_37 : decode cX4_setWay 37 = .ok (.aload_n 0, 1) := by decide +kernel
theorem dX4_setWay_38 : decode cX4_setWay 38 = .ok (.getfield 12, 3) := by decide +kernel
theorem dX4_setWay_41 : decode cX4_setWay 41 = .ok (.getfield 48, 3) := by decide +kernel
theorem dX4_setWay_44 : decode cX4_setWay 44 = .ok (.iload_n 1, 1) := by decide +kernel
theorem dX4_setWay_45 : decode cX4_setWay 45 = .ok (.aaload, 1) := by decide +kernel
theorem dX4_setWay_46 : decode cX4_setWay 46 = .ok (.iload_n 2, 1) := by decide +kernel
theorem dX4_setWay_47 : decode cX4_setWay 47 = .ok (.putfield 52, 3) := by decide +kernel
theorem dX4_setWay_50 : decode cX4_setWay 50 = .ok (.iload_n 3, 1) := by decide +kernel
theorem dX4_setWay_51 : decode cX4_setWay 51 = .ok (.ireturn, 1) := by decide +kernel
theorem dX4_setFork_0 : decode cX4_setFork 0 = .ok (.iload_n 1, 1) := by decide +kernel
theorem dX4_setFork_1 : decode cX4_setFork 1 = .ok (.iconst 4, 1) := by decide +kernel
theorem dX4_setFork_2 : decode cX4_setFork 2 = .ok (.if_icmp .lt 9, 3) := by decide +kernel
theorem dX4_setFork_5 : decode cX4_setFork 5 = .ok (.iload_n 1, 1) := by decide +kernel
theorem dX4_setFork_6 : decode cX4_setFork 6 = .ok (.bipush 60, 2) := by decide +kernel
theorem dX4_setFork_8 : decode cX4_setFork 8 = .ok (.if_icmp .le 13, 3) := by decide +kernel
theorem dX4_setFork_11 : decode cX4_setFork 11 = .ok (.new 19, 3) := by decide +kernel
theorem dX4_setFork_14 : decode cX4_setFork 14 = .ok (.dup, 1) := by decide +kernel
theorem dX4_setFork_15 : decode cX4_setFork 15 = .ok (.ldc 57, 2) := by decide +kernel
theorem dX4_setFork_17 : decode cX4_setFork 17 = .ok (.invokespecial 23, 3) := by decide +kernel
theorem dX4_setFork_20 : decode cX4_setFork 20 = .ok (.athrow, 1) := by decide +kernel
theorem dX4_setFork_21 : decode cX4_setFork 21 = .ok (.aload_n 0, 1) := by decide +kernel
theorem dX4_setFork_22 : decode cX4_setFork 22 = .ok (.getfield 12, 3) := by decide +kernel
theorem dX4_setFork_25 : decode cX4_setFork 25 = .ok (.getfield 59, 3) := by decide +kernel
theorem dX4_setFork_28 : decode cX4_setFork 28 = .ok (.istore_n 2, 1) := by decide +kernel
theorem dX4_setFork_29 : decode cX4_setFork 29 = .ok (.aload_n 0, 1) := by decide +kernel
theorem dX4_setFork_30 : decode cX4_setFork 30 = .ok (.getfield 12, 3) := by decide +kernel
theorem dX4_setFork_33 : decode cX4_setFork 33 = .ok (.iload_n 1, 1) := by decide +kernel
theorem dX4_setFork_34 : decode cX4_setFork 34 = .ok (.putfield 59, 3) := by decide +kernel
theorem dX4_setFork_37 : decode cX4_setFork 37 = .ok (.iload_n 2, 1) := by decide +kernel
theorem dX4_setFork_38 : decode cX4_setFork 38 = .ok (.ireturn, 1) := by decide +kernel
theorem dX4_bring_0 : decode cX4_bring 0 = .ok (.iload_n 1, 1) := by decide +kernel
theorem dX4_bring_1 : decode cX4_bring 1 = .ok (.iconst 1, 1) := by decide +kernel
theorem dX4_bring_2 : decode cX4_bring 2 = .ok (.if_icmp .lt 9, 3) := by decide +kernel
theorem dX4_bring_5 : decode cX4_bring 5 = .ok (.iload_n 1, 1) := by decide +kernel
theorem dX4_bring_6 : decode cX4_bring 6 = .ok (.bipush 60, 2) := by decide +kernel
theorem dX4_bring_8 : decode cX4_bring 8 = .ok (.if_icmp .le 13, 3) := by decide +kernel
theorem dX4_bring_11 : decode cX4_bring 11 = .ok (.new 19, 3) := by decide +kernel
theorem dX4_bring_14 : decode cX4_bring 14 = .ok (.dup, 1) := by decide +kernel
theorem dX4_bring_15 : decode cX4_bring 15 = .ok (.ldc 62, 2) := by decide +kernel
theorem dX4_bring_17 : decode cX4_bring 17 = .ok (.invokespecial 23, 3) := by decide +kernel
theorem dX4_bring_20 : decode cX4_bring 20 = .ok (.athrow, 1) := by decide +kernel
theorem dX4_bring_21 : decode cX4_bring 21 = .ok (.aload_n 0, 1) := by decide +kernel
theorem dX4_bring_22 : decode cX4_bring 22 = .ok (.getfield 12, 3) := by decide +kernel
theorem dX4_bring_25 : decode cX4_bring 25 = .ok (.getfield 64, 3) := by decide +kernel
theorem dX4_bring_28 : decode cX4_bring 28 = .ok (.bipush 10, 2) := by decide +kernel
theorem dX4_bring_30 : decode cX4_bring 30 = .ok (.if_icmp .lt 13, 3) := by decide +kernel
theorem dX4_bring_33 : decode cX4_bring 33 = .ok (.new 30, 3) := by decide +kernel
theorem dX4_bring_36 : decode cX4_bring 36 = .ok (.dup, 1) := by decide +kernel
theorem dX4_bring_37 : decode cX4_bring 37 = .ok (.ldc 67, 2) := by decide +kernel
theorem dX4_bring_39 : decode cX4_bring 39 = .ok (.invokespecial 34, 3) := by decide +kernel
theorem dX4_bring_42 : decode cX4_bring 42 = .ok (.athrow, 1) := by decide +kernel
theorem dX4_bring_43 : decode cX4_bring 43 = .ok (.aload_n 0, 1) := by decide +kernel
theorem dX4_bring_44 : decode cX4_bring 44 = .ok (.getfield 12, 3) := by decide +kernel
theorem dX4_bring_47 : decode cX4_bring 47 = .ok (.iload_n 1, 1) := by decide +kernel
theorem dX4_bring_48 : decode cX4_bring 48 = .ok (.invokevirtual 69, 3) := by decide +kernel
theorem dX4_bring_51 : decode cX4_bring 51 = .ok (.ireturn, 1) := by decide +kernel
theorem dX4_swap_0 : decode cX4_swap 0 = .ok (.aload_n 0, 1) := by decide +kernel
theorem dX4_swap_1 : decode cX4_swap 1 = .ok (.iload_n 1, 1) := by decide +kernel
theorem dX4_swap_2 : decode cX4_swap 2 = .ok (.invokevirtual 39, 3) := by decide +kernel
theorem dX4_swap_5 : decode cX4_swap 5 = .ok (.aload_n 0, 1) := by decide +kernel
theorem dX4_swap_6 : decode cX4_swap 6 = .ok (.iload_n 2, 1) := by decide +kernel
theorem dX4_swap_7 : decode cX4_swap 7 = .ok (.invokevirtual 39, 3) := by decide +kernel
theorem dX4_swap_10 : decode cX4_swap 10 = .ok (.iload_n 1, 1) := by decide +kernel
theorem dX4_swap_11 : decode cX4_swap 11 = .ok (.iload_n 2, 1) := by decide +kernel
theorem dX4_swap_12 : decode cX4_swap 12 = .ok (.if_icmp .ne 13, 3) := by decide +kernel
theorem dX4_swap_15 : decode cX4_swap 15 = .ok (.new 19, 3) := by decide +kernel
theorem dX4_swap_18 : decode cX4_swap 18 = .ok (.dup, 1) := by decide +kernel
theorem dX4_swap_19 : decode cX4_swap 19 = .ok (.ldc 72, 2) := by decide +kernel
theorem dX4_swap_21 : decode cX4_swap 21 = .ok (.invokespecial 23, 3) := by decide +kernel
theorem dX4_swap_24 : decode cX4_swap 24 = .ok (.athrow, 1) := by decide +kernel
theorem dX4_swap_25 : decode cX4_swap 25 = .ok (.aload_n 0, 1) := by decide +kernel
theorem dX4_swap_26 : decode cX4_swap 26 = .ok (.getfield 12, 3) := by decide +kernel
theorem dX4_swap_29 : decode cX4_swap 29 = .ok (.getfield 48, 3) := by decide +kernel
theorem dX4_swap_32 : decode cX4_swap 32 = .ok (.iload_n 1, 1) := by decide +kernel
theorem dX4_swap_33 : decode cX4_swap 33 = .ok (.aaload, 1) := by decide +kernel
theorem dX4_swap_34 : decode cX4_swap 34 = .ok (.getfield 74, 3) := by decide +kernel
theorem dX4_swap_37 : decode cX4_swap 37 = .ok (.astore_n 3, 1) := by decide +kernel
theorem dX4_swap_38 : decode cX4_swap 38 = .ok (.aload_n 0, 1) := by decide +kernel
theorem dX4_swap_39 : decode cX4_swap 39 = .ok (.getfield 12, 3) := by decide +kernel
theorem dX4_swap_42 : decode cX4_swap 42 = .ok (.getfield 48, 3) := by decide +kernel
theorem dX4_swap_45 : decode cX4_swap 45 = .ok (.iload_n 1, 1) := by decide +kernel
theorem dX4_swap_46 : decode cX4_swap 46 = .ok (.aaload, 1) := by decide +kernel
theorem dX4_swap_47 : decode cX4_swap 47 = .ok (.aload_n 0, 1) := by decide +kernel
theorem dX4_swap_48 : decode cX4_swap 48 = .ok (.getfield 12, 3) := by decide +kernel
theorem dX4_swap_51 : decode cX4_swap 51 = .ok (.getfield 48, 3) := by decide +kernel
theorem dX4_swap_54 : decode cX4_swap 54 = .ok (.iload_n 2, 1) := by decide +kernel
theorem dX4_swap_55 : decode cX4_swap 55 = .ok (.aaload, 1) := by decide +kernel
theorem dX4_swap_56 : decode cX4_swap 56 = .ok (.getfield 74, 3) := by decide +kernel
theorem dX4_swap_59 : decode cX4_swap 59 = .ok (.putfield 74, 3) := by decide +kernel
theorem dX4_swap_62 : decode cX4_swap 62 = .ok (.aload_n 0, 1) := by decide +kernel
theorem dX4_swap_63 : decode cX4_swap 63 = .ok (.getfield 12, 3) := by decide +kernel
theorem dX4_swap_66 : decode cX4_swap 66 = .ok (.getfield 48, 3) := by decide +kernel
theorem dX4_swap_69 : decode cX4_swap 69 = .ok (.iload_n 2, 1) := by decide +kernel
theorem dX4_swap_70 : decode cX4_swap 70 = .ok (.aaload, 1) := by decide +kernel
theorem dX4_swap_71 : decode cX4_swap 71 = .ok (.aload_n 3, 1) := by decide +kernel
theorem dX4_swap_72 : decode cX4_swap 72 = .ok (.putfield 74, 3) := by decide +kernel
theorem dX4_swap_75 : decode cX4_swap 75 = .ok (.aload_n 0, 1) := by decide +kernel
theorem dX4_swap_76 : decode cX4_swap 76 = .ok (.getfield 12, 3) := by decide +kernel
theorem dX4_swap_79 : decode cX4_swap 79 = .ok (.getfield 48, 3) := by decide +kernel
theorem dX4_swap_82 : decode cX4_swap 82 = .ok (.iload_n 1, 1) := by decide +kernel
theorem dX4_swap_83 : decode cX4_swap 83 = .ok (.aaload, 1) := by decide +kernel
theorem dX4_swap_84 : decode cX4_swap 84 = .ok (.getfield 74, 3) := by decide +kernel
theorem dX4_swap_87 : decode cX4_swap 87 = .ok (.getfield 78, 3) := by decide +kernel
theorem dX4_swap_90 : decode cX4_swap 90 = .ok (.ireturn, 1) := by decide +kernel
theorem dX4_wake_0 : decode cX4_wake 0 = .ok (.aload_n 0, 1) := by decide +kernel
theorem dX4_wake_1 : decode cX4_wake 1 = .ok (.iload_n 1, 1) := by decide +kernel
theorem dX4_wake_2 : decode cX4_wake 2 = .ok (.invokevirtual 39, 3) := by decide +kernel
theorem dX4_wake_5 : decode cX4_wake 5 = .ok (.aload_n 0, 1) := by decide +kernel
theorem dX4_wake_6 : decode cX4_wake 6 = .ok (.getfield 12, 3) := by decide +kernel
theorem dX4_wake_9 : decode cX4_wake 9 = .ok (.getfield 48, 3) := by decide +kernel
theorem dX4_wake_12 : decode cX4_wake 12 = .ok (.iload_n 1, 1) := by decide +kernel
theorem dX4_wake_13 : decode cX4_wake 13 = .ok (.aaload, 1) := by decide +kernel
theorem dX4_wake_14 : decode cX4_wake 14 = .ok (.getfield 83, 3) := by decide +kernel
theorem dX4_wake_17 : decode cX4_wake 17 = .ok (.ifCond .ne 13, 3) := by decide +kernel
theorem dX4_wake_20 : decode cX4_wake 20 = .ok (.new 30, 3) := by decide +kernel
theorem dX4_wake_23 : decode cX4_wake 23 = .ok (.dup, 1) := by decide +kernel
theorem dX4_wake_24 : decode cX4_wake 24 = .ok (.ldc 87, 2) := by decide +kernel
theorem dX4_wake_26 : decode cX4_wake 26 = .ok (.invokespecial 34, 3) := by decide +kernel
theorem dX4_wake_29 : decode cX4_wake 29 = .ok (.athrow, 1) := by decide +kernel
theorem dX4_wake_30 : decode cX4_wake 30 = .ok (.aload_n 0, 1) := by decide +kernel
theorem dX4_wake_31 : decode cX4_wake 31 = .ok (.getfield 12, 3) := by decide +kernel
theorem dX4_wake_34 : decode cX4_wake 34 = .ok (.getfield 48, 3) := by decide +kernel
theorem dX4_wake_37 : decode cX4_wake 37 = .ok (.iload_n 1, 1) := by decide +kernel
theorem dX4_wake_38 : decode cX4_wake 38 = .ok (.aaload, 1) := by decide +kernel
theorem dX4_wake_39 : decode cX4_wake 39 = .ok (.iconst 0, 1) := by decide +kernel
theorem dX4_wake_40 : decode cX4_wake 40 = .ok (.putfield 83, 3) := by decide +kernel
theorem dX4_wake_43 : decode cX4_wake 43 = .ok (.aload_n 0, 1) := by decide +kernel
theorem dX4_wake_44 : decode cX4_wake 44 = .ok (.getfield 12, 3) := by decide +kernel
theorem dX4_wake_47 : decode cX4_wake 47 = .ok (.invokevirtual 89, 3) := by decide +kernel
theorem dX4_wake_50 : decode cX4_wake 50 = .ok (.ireturn, 1) := by decide +kernel
theorem dX4_lad_0 : decode cX4_lad 0 = .ok (.aload_n 0, 1) := by decide +kernel
theorem dX4_lad_1 : decode cX4_lad 1 = .ok (.iload_n 1, 1) := by decide +kernel
theorem dX4_lad_2 : decode cX4_lad 2 = .ok (.invokevirtual 39, 3) := by decide +kernel
theorem dX4_lad_5 : decode cX4_lad 5 = .ok (.iload_n 2, 1) := by decide +kernel
theorem dX4_lad_6 : decode cX4_lad 6 = .ok (.ifCond .lt 9, 3) := by decide +kernel
theorem dX4_lad_9 : decode cX4_lad 9 = .ok (.iload_n 2, 1) := by decide +kernel
theorem dX4_lad_10 : decode cX4_lad 10 = .ok (.bipush 9, 2) := by decide +kernel
theorem dX4_lad_12 : decode cX4_lad 12 = .ok (.if_icmp .lt 13, 3) := by decide +kernel
theorem dX4_lad_15 : decode cX4_lad 15 = .ok (.new 43, 3) := by decide +kernel
theorem dX4_lad_18 : decode cX4_lad 18 = .ok (.dup, 1) := by decide +kernel
theorem dX4_lad_19 : decode cX4_lad 19 = .ok (.ldc 93, 2) := by decide +kernel
theorem dX4_lad_21 : decode cX4_lad 21 = .ok (.invokespecial 47, 3) := by decide +kernel
theorem dX4_lad_24 : decode cX4_lad 24 = .ok (.athrow, 1) := by decide +kernel
theorem dX4_lad_25 : decode cX4_lad 25 = .ok (.aload_n 0, 1) := by decide +kernel
theorem dX4_lad_26 : decode cX4_lad 26 = .ok (.getfield 12, 3) := by decide +kernel
theorem dX4_lad_29 : decode cX4_lad 29 = .ok (.getfield 48, 3) := by decide +kernel
theorem dX4_lad_32 : decode cX4_lad 32 = .ok (.iload_n 1, 1) := by decide +kernel
theorem dX4_lad_33 : decode cX4_lad 33 = .ok (.aaload, 1) := by decide +kernel
theorem dX4_lad_34 : decode cX4_lad 34 = .ok (.iload_n 2, 1) := by decide +kernel
theorem dX4_lad_35 : decode cX4_lad 35 = .ok (.invokevirtual 95, 3) := by decide +kernel
theorem dX4_lad_38 : decode cX4_lad 38 = .ok (.ireturn, 1) := by decide +kernel
theorem dX4_cart_0 : decode cX4_cart 0 = .ok (.aload_n 0, 1) := by decide +kernel
theorem dX4_cart_1 : decode cX4_cart 1 = .ok (.iload_n 1, 1) := by decide +kernel
theorem dX4_cart_2 : decode cX4_cart 2 = .ok (.invokevirtual 39, 3) := by decide +kernel
theorem dX4_cart_5 : decode cX4_cart 5 = .ok (.iload_n 2, 1) := by decide +kernel
theorem dX4_cart_6 : decode cX4_cart 6 = .ok (.ifCond .lt 22, 3) := by decide +kernel
theorem dX4_cart_9 : decode cX4_cart 9 = .ok (.iload_n 2, 1) := by decide +kernel
theorem dX4_cart_10 : decode cX4_cart 10 = .ok (.aload_n 0, 1) := by decide +kernel
theorem dX4_cart_11 : decode cX4_cart 11 = .ok (.getfield 12, 3) := by decide +kernel
theorem dX4_cart_14 : decode cX4_cart 14 = .ok (.getfield 48, 3) := by decide +kernel
theorem dX4_cart_17 : decode cX4_cart 17 = .ok (.iload_n 1, 1) := by decide +kernel
theorem dX4_cart_18 : decode cX4_cart 18 = .ok (.aaload, 1) := by decide +kernel
theorem dX4_cart_19 : decode cX4_cart 19 = .ok (.getfield 74, 3) := by decide +kernel
theorem dX4_cart_22 : decode cX4_cart 22 = .ok (.getfield 78, 3) := by decide +kernel
theorem dX4_cart_25 : decode cX4_cart 25 = .ok (.if_icmp .lt 13, 3) := by decide +kernel
theorem dX4_cart_28 : decode cX4_cart 28 = .ok (.new 43, 3) := by decide +kernel
theorem dX4_cart_31 : decode cX4_cart 31 = .ok (.dup, 1) := by decide +kernel
theorem dX4_cart_32 : decode cX4_cart 32 = .ok (.ldc 98, 2) := by decide +kernel
theorem dX4_cart_34 : decode cX4_cart 34 = .ok (.invokespecial 47, 3) := by decide +kernel
theorem dX4_cart_37 : decode cX4_cart 37 = .ok (.athrow, 1) := by decide +kernel
theorem dX4_cart_38 : decode cX4_cart 38 = .ok (.aload_n 0, 1) := by decide +kernel
theorem dX4_cart_39 : decode cX4_cart 39 = .ok (.getfield 12, 3) := by decide +kernel
theorem dX4_cart_42 : decode cX4_cart 42 = .ok (.aload_n 0, 1) := by decide +kernel
theorem dX4_cart_43 : decode cX4_cart 43 = .ok (.getfield 12, 3) := by decide +kernel
theorem dX4_cart_46 : decode cX4_cart 46 = .ok (.getfield 48, 3) := by decide +kernel
theorem dX4_cart_49 : decode cX4_cart 49 = .ok (.iload_n 1, 1) := by decide +kernel
theorem dX4_cart_50 : decode cX4_cart 50 = .ok (.aaload, 1) := by decide +kernel
theorem dX4_cart_51 : decode cX4_cart 51 = .ok (.getfield 74, 3) := by decide +kernel
theorem dX4_cart_54 : decode cX4_cart 54 = .ok (.iload_n 2, 1) := by decide +kernel
theorem dX4_cart_55 : decode cX4_cart 55 = .ok (.invokevirtual 100, 3) := by decide +kernel
theorem dX4_cart_58 : decode cX4_cart 58 = .ok (.invokevirtual 103, 3) := by decide +kernel
theorem dX4_cart_61 : decode cX4_cart 61 = .ok (.ireturn, 1) := by decide +kernel
theorem dX4_load_0 : decode cX4_load 0 = .ok (.aload_n 0, 1) := by decide +kernel
theorem dX4_load_1 : decode cX4_load 1 = .ok (.iload_n 1, 1) := by decide +kernel
theorem dX4_load_2 : decode cX4_load 2 = .ok (.invokevirtual 106, 3) := by decide +kernel
theorem dX4_load_5 : decode cX4_load 5 = .ok (.iload_n 2, 1) := by decide +kernel
theorem dX4_load_6 : decode cX4_load 6 = .ok (.ifCond .lt 9, 3) := by decide +kernel
theorem dX4_load_9 : decode cX4_load 9 = .ok (.iload_n 2, 1) := by decide +kernel
theorem dX4_load_10 : decode cX4_load 10 = .ok (.bipush 7, 2) := by decide +kernel
theorem dX4_load_12 : decode cX4_load 12 = .ok (.if_icmp .lt 13, 3) := by decide +kernel
theorem dX4_load_15 : decode cX4_load 15 = .ok (.new 43, 3) := by decide +kernel
theorem dX4_load_18 : decode cX4_load 18 = .ok (.dup, 1) := by decide +kernel
theorem dX4_load_19 : decode cX4_load 19 = .ok (.ldc 109, 2) := by decide +kernel
theorem dX4_load_21 : decode cX4_load 21 = .ok (.invokespecial 47, 3) := by decide +kernel
theorem dX4_load_24 : decode cX4_load 24 = .ok (.athrow, 1) := by decide +kernel
theorem dX4_load_25 : decode cX4_load 25 = .ok (.aload_n 0, 1) := by decide +kernel
theorem dX4_load_26 : decode cX4_load 26 = .ok (.getfield 12, 3) := by decide +kernel
theorem dX4_load_29 : decode cX4_load 29 = .ok (.getfield 111, 3) := by decide +kernel
theorem dX4_load_32 : decode cX4_load 32 = .ok (.iload_n 1, 1) := by decide +kernel
theorem dX4_load_33 : decode cX4_load 33 = .ok (.aaload, 1) := by decide +kernel
theorem dX4_load_34 : decode cX4_load 34 = .ok (.iload_n 2, 1) := by decide +kernel
theorem dX4_load_35 : decode cX4_load 35 = .ok (.invokevirtual 115, 3) := by decide +kernel
theorem dX4_load_38 : decode cX4_load 38 = .ok (.ireturn, 1) := by decide +kernel
theorem dX4_count_0 : decode cX4_count 0 = .ok (.iload_n 1, 1) := by decide +kernel
theorem dX4_count_1 : decode cX4_count 1 = .ok (.ifCond .lt 9, 3) := by decide +kernel
theorem dX4_count_4 : decode cX4_count 4 = .ok (.iload_n 1, 1) := by decide +kernel
theorem dX4_count_5 : decode cX4_count 5 = .ok (.bipush 13, 2) := by decide +kernel
theorem dX4_count_7 : decode cX4_count 7 = .ok (.if_icmp .lt 13, 3) := by decide +kernel
theorem dX4_count_10 : decode cX4_count 10 = .ok (.new 43, 3) := by decide +kernel
theorem dX4_count_13 : decode cX4_count 13 = .ok (.dup, 1) := by decide +kernel
theorem dX4_count_14 : decode cX4_count 14 = .ok (.ldc 118, 2) := by decide +kernel
theorem dX4_count_16 : decode cX4_count 16 = .ok (.invokespecial 47, 3) := by decide +kernel
theorem dX4_count_19 : decode cX4_count 19 = .ok (.athrow, 1) := by decide +kernel
theorem dX4_count_20 : decode cX4_count 20 = .ok (.aload_n 0, 1) := by decide +kernel
theorem dX4_count_21 : decode cX4_count 21 = .ok (.getfield 12, 3) := by decide +kernel
theorem dX4_count_24 : decode cX4_count 24 = .ok (.iload_n 1, 1) := by decide +kernel
theorem dX4_count_25 : decode cX4_count 25 = .ok (.invokevirtual 120, 3) := by decide +kernel
theorem dX4_count_28 : decode cX4_count 28 = .ok (.ireturn, 1) := by decide +kernel
theorem dX4_victim_0 : decode cX4_victim 0 = .ok (.aload_n 0, 1) := by decide +kernel
theorem dX4_victim_1 : decode cX4_victim 1 = .ok (.iload_n 1, 1) := by decide +kernel
theorem dX4_victim_2 : decode cX4_victim 2 = .ok (.invokevirtual 39, 3) := by decide +kernel
theorem dX4_victim_5 : decode cX4_victim 5 = .ok (.aload_n 0, 1) := by decide +kernel
theorem dX4_victim_6 : decode cX4_victim 6 = .ok (.getfield 12, 3) := by decide +kernel
theorem dX4_victim_9 : decode cX4_victim 9 = .ok (.aload_n 0, 1) := by decide +kernel
theorem dX4_victim_10 : decode cX4_victim 10 = .ok (.getfield 12, 3) := by decide +kernel
theorem dX4_victim_13 : decode cX4_victim 13 = .ok (.getfield 48, 3) := by decide +kernel
theorem dX4_victim_16 : decode cX4_victim 16 = .ok (.iload_n 1, 1) := by decide +kernel
theorem dX4_victim_17 : decode cX4_victim 17 = .ok (.aaload, 1) := by decide +kernel
theorem dX4_victim_18 : decode cX4_victim 18 = .ok (.invokevirtual 121, 3) := by decide +kernel
theorem dX4_victim_21 : decode cX4_victim 21 = .ok (.ireturn, 1) := by decide +kernel
theorem dX4_thief_0 : decode cX4_thief 0 = .ok (.iconst (-1), 1) := by decide +kernel
theorem dX4_thief_1 : decode cX4_thief 1 = .ok (.istore_n 1, 1) := by decide +kernel
theorem dX4_thief_2 : decode cX4_thief 2 = .ok (.iconst (-1), 1) := by decide +kernel
theorem dX4_thief_3 : decode cX4_thief 3 = .ok (.istore_n 2, 1) := by decide +kernel
theorem dX4_thief_4 : decode cX4_thief 4 = .ok (.iconst 0, 1) := by decide +kernel
theorem dX4_thief_5 : decode cX4_thief 5 = .ok (.istore_n 3, 1) := by decide +kernel
theorem dX4_thief_6 : decode cX4_thief 6 = .ok (.iload_n 3, 1) := by decide +kernel
theorem dX4_thief_7 : decode cX4_thief 7 = .ok (.aload_n 0, 1) := by decide +kernel
theorem dX4_thief_8 : decode cX4_thief 8 = .ok (.getfield 12, 3) := by decide +kernel
theorem dX4_thief_11 : decode cX4_thief 11 = .ok (.getfield 26, 3) := by decide +kernel
theorem dX4_thief_14 : decode cX4_thief 14 = .ok (.if_icmp .ge 40, 3) := by decide +kernel
theorem dX4_thief_17 : decode cX4_thief 17 = .ok (.aload_n 0, 1) := by decide +kernel
theorem dX4_thief_18 : decode cX4_thief 18 = .ok (.getfield 12, 3) := by decide +kernel
theorem dX4_thief_21 : decode cX4_thief 21 = .ok (.getfield 48, 3) := by decide +kernel
theorem dX4_thief_24 : decode cX4_thief 24 = .ok (.iload_n 3, 1) := by decide +kernel
theorem dX4_thief_25 : decode cX4_thief 25 = .ok (.aaload, 1) := by decide +kernel
theorem dX4_thief_26 : decode cX4_thief 26 = .ok (.getfield 125, 3) := by decide +kernel
theorem dX4_thief_29 : decode cX4_thief 29 = .ok (.iload_n 2, 1) := by decide +kernel
theorem dX4_thief_30 : decode cX4_thief 30 = .ok (.if_icmp .le 18, 3) := by decide +kernel
theorem dX4_thief_33 : decode cX4_thief 33 = .ok (.aload_n 0, 1) := by decide +kernel
theorem dX4_thief_34 : decode cX4_thief 34 = .ok (.getfield 12, 3) := by decide +kernel
theorem dX4_thief_37 : decode cX4_thief 37 = .ok (.getfield 48, 3) := by decide +kernel
theorem dX4_thief_40 : decode cX4_thief 40 = .ok (.iload_n 3, 1) := by decide +kernel
theorem dX4_thief_41 : decode cX4_thief 41 = .ok (.aaload, 1) := by decide +kernel
theorem dX4_thief_42 : decode cX4_thief 42 = .ok (.getfield 125, 3) := by decide +kernel
theorem dX4_thief_45 : decode cX4_thief 45 = .ok (.istore_n 2, 1) := by decide +kernel
theorem dX4_thief_46 : decode cX4_thief 46 = .ok (.iload_n 3, 1) := by decide +kernel
theorem dX4_thief_47 : decode cX4_thief 47 = .ok (.istore_n 1, 1) := by decide +kernel
theorem dX4_thief_48 : decode cX4_thief 48 = .ok (.iinc 3 1, 3) := by decide +kernel
theorem dX4_thief_51 : decode cX4_thief 51 = .ok (.goto (-45), 3) := by decide +kernel
theorem dX4_thief_54 : decode cX4_thief 54 = .ok (.iload_n 1, 1) := by decide +kernel
theorem dX4_thief_55 : decode cX4_thief 55 = .ok (.ireturn, 1) := by decide +kernel
theorem dX4_pass_0 : decode cX4_pass 0 = .ok (.iload_n 1, 1) := by decide +kernel
theorem dX4_pass_1 : decode cX4_pass 1 = .ok (.bipush 60, 2) := by decide +kernel
theorem dX4_pass_3 : decode cX4_pass 3 = .ok (.invokestatic 128, 3) := by decide +kernel
theorem dX4_pass_6 : decode cX4_pass 6 = .ok (.aload_n 0, 1) := by decide +kernel
theorem dX4_pass_7 : decode cX4_pass 7 = .ok (.getfield 12, 3) := by decide +kernel
theorem dX4_pass_10 : decode cX4_pass 10 = .ok (.iconst 3, 1) := by decide +kernel
theorem dX4_pass_11 : decode cX4_pass 11 = .ok (.invokevirtual 120, 3) := by decide +kernel
theorem dX4_pass_14 : decode cX4_pass 14 = .ok (.istore_n 2, 1) := by decide +kernel
theorem dX4_pass_15 : decode cX4_pass 15 = .ok (.aload_n 0, 1) := by decide +kernel
theorem dX4_pass_16 : decode cX4_pass 16 = .ok (.getfield 12, 3) := by decide +kernel
theorem dX4_pass_19 : decode cX4_pass 19 = .ok (.iload_n 1, 1) := by decide +kernel
theorem dX4_pass_20 : decode cX4_pass 20 = .ok (.invokevirtual 132, 3) := by decide +kernel
theorem dX4_pass_23 : decode cX4_pass 23 = .ok (.aload_n 0, 1) := by decide +kernel
theorem dX4_pass_24 : decode cX4_pass 24 = .ok (.getfield 12, 3) := by decide +kernel
theorem dX4_pass_27 : decode cX4_pass 27 = .ok (.iconst 3, 1) := by decide +kernel
theorem dX4_pass_28 : decode cX4_pass 28 = .ok (.invokevirtual 120, 3) := by decide +kernel
theorem dX4_pass_31 : decode cX4_pass 31 = .ok (.iload_n 2, 1) := by decide +kernel
theorem dX4_pass_32 : decode cX4_pass 32 = .ok (.isub, 1) := by decide +kernel
theorem dX4_pass_33 : decode cX4_pass 33 = .ok (.ireturn, 1) := by decide +kernel
theorem dX4_until_0 : decode cX4_until 0 = .ok (.aload_n 0, 1) := by decide +kernel
theorem dX4_until_1 : decode cX4_until 1 = .ok (.iload_n 1, 1) := by decide +kernel
theorem dX4_until_2 : decode cX4_until 2 = .ok (.invokevirtual 106, 3) := by decide +kernel
theorem dX4_until_5 : decode cX4_until 5 = .ok (.aload_n 0, 1) := by decide +kernel
theorem dX4_until_6 : decode cX4_until 6 = .ok (.getfield 16, 3) := by decide +kernel
theorem dX4_until_9 : decode cX4_until 9 = .ok (.aload_n 0, 1) := by decide +kernel
theorem dX4_until_10 : decode cX4_until 10 = .ok (.getfield 12, 3) := by decide +kernel
theorem dX4_until_13 : decode cX4_until 13 = .ok (.invokevirtual 135, 3) := by decide +kernel
theorem dX4_until_16 : decode cX4_until 16 = .ok (.aload_n 0, 1) := by decide +kernel
theorem dX4_until_17 : decode cX4_until 17 = .ok (.getfield 16, 3) := by decide +kernel
theorem dX4_until_20 : decode cX4_until 20 = .ok (.getfield 111, 3) := by decide +kernel
theorem dX4_until_23 : decode cX4_until 23 = .ok (.iload_n 1, 1) := by decide +kernel
theorem dX4_until_24 : decode cX4_until 24 = .ok (.aaload, 1) := by decide +kernel
theorem dX4_until_25 : decode cX4_until 25 = .ok (.astore_n 2, 1) := by decide +kernel
theorem dX4_until_26 : decode cX4_until 26 = .ok (.iconst 0, 1) := by decide +kernel
theorem dX4_until_27 : decode cX4_until 27 = .ok (.istore_n 3, 1) := by decide +kernel
theorem dX4_until_28 : decode cX4_until 28 = .ok (.aload_n 2, 1) := by decide +kernel
theorem dX4_until_29 : decode cX4_until 29 = .ok (.getfield 139, 3) := by decide +kernel
theorem dX4_until_32 : decode cX4_until 32 = .ok (.iconst 2, 1) := by decide +kernel
theorem dX4_until_33 : decode cX4_until 33 = .ok (.if_icmp .eq 24, 3) := by decide +kernel
theorem dX4_until_36 : decode cX4_until 36 = .ok (.iload_n 3, 1) := by decide +kernel
theorem dX4_until_37 : decode cX4_until 37 = .ok (.sipush 300, 3) := by decide +kernel
theorem dX4_until_40 : decode cX4_until 40 = .ok (.if_icmp .ge 17, 3) := by decide +kernel
theorem dX4_until_43 : decode cX4_until 43 = .ok (.aload_n 0, 1) := by decide +kernel
theorem dX4_until_44 : decode cX4_until 44 = .ok (.getfield 16, 3) := by decide +kernel
theorem dX4_until_47 : decode cX4_until 47 = .ok (.iconst 1, 1) := by decide +kernel
theorem dX4_until_48 : decode cX4_until 48 = .ok (.invokevirtual 132, 3) := by decide +kernel
theorem dX4_until_51 : decode cX4_until 51 = .ok (.iinc 3 1, 3) := by decide +kernel
theorem dX4_until_54 : decode cX4_until 54 = .ok (.goto (-26), 3) := by decide +kernel
theorem dX4_until_57 : decode cX4_until 57 = .ok (.aload_n 2, 1) := by decide +kernel
theorem dX4_until_58 : decode cX4_until 58 = .ok (.getfield 139, 3) := by decide +kernel
theorem dX4_until_61 : decode cX4_until 61 = .ok (.iconst 2, 1) := by decide +kernel
theorem dX4_until_62 : decode cX4_until 62 = .ok (.if_icmp .ne 7, 3) := by decide +kernel
theorem dX4_until_65 : decode cX4_until 65 = .ok (.iload_n 3, 1) := by decide +kernel
theorem dX4_until_66 : decode cX4_until 66 = .ok (.goto 4, 3) := by decide +kernel
theorem dX4_until_69 : decode cX4_until 69 = .ok (.iconst (-1), 1) := by decide +kernel
theorem dX4_until_70 : decode cX4_until 70 = .ok (.ireturn, 1) := by decide +kernel
theorem dX4_foresee_0 : decode cX4_foresee 0 = .ok (.iload_n 1, 1) := by decide +kernel
theorem dX4_foresee_1 : decode cX4_foresee 1 = .ok (.bipush 60, 2) := by decide +kernel
theorem dX4_foresee_3 : decode cX4_foresee 3 = .ok (.invokestatic 128, 3) := by decide +kernel
theorem dX4_foresee_6 : decode cX4_foresee 6 = .ok (.iload_n 2, 1) := by decide +kernel
theorem dX4_foresee_7 : decode cX4_foresee 7 = .ok (.iconst 3, 1) := by decide +kernel
theorem dX4_foresee_8 : decode cX4_foresee 8 = .ok (.if_icmp .lt 9, 3) := by decide +kernel
theorem dX4_foresee_11 : decode cX4_foresee 11 = .ok (.iload_n 2, 1) := by decide +kernel
theorem dX4_foresee_12 : decode cX4_foresee 12 = .ok (.bipush 11, 2) := by decide +kernel
theorem dX4_foresee_14 : decode cX4_foresee 14 = .ok (.if_icmp .le 13, 3) := by decide +kernel
theorem dX4_foresee_17 : decode cX4_foresee 17 = .ok (.new 43, 3) := by decide +kernel
theorem dX4_foresee_20 : decode cX4_foresee 20 = .ok (.dup, 1) := by decide +kernel
theorem dX4_foresee_21 : decode cX4_foresee 21 = .ok (.ldc 142, 2) := by decide +kernel
theorem dX4_foresee_23 : decode cX4_foresee 23 = .ok (.invokespecial 47, 3) := by decide +kernel
theorem dX4_foresee_26 : decode cX4_foresee 26 = .ok (.athrow, 1) := by decide +kernel
theorem dX4_foresee_27 : decode cX4_foresee 27 = .ok (.aload_n 0, 1) := by decide +kernel
theorem dX4_foresee_28 : decode cX4_foresee 28 = .ok (.getfield 16, 3) := by decide +kernel
theorem dX4_foresee_31 : decode cX4_foresee 31 = .ok (.aload_n 0, 1) := by decide +kernel
theorem dX4_foresee_32 : decode cX4_foresee 32 = .ok (.getfield 12, 3) := by decide +kernel
theorem dX4_foresee_35 : decode cX4_foresee 35 = .ok (.invokevirtual 135, 3) := by decide +kernel
theorem dX4_foresee_38 : decode cX4_foresee 38 = .ok (.aload_n 0, 1) := by decide +kernel
theorem dX4_foresee_39 : decode cX4_foresee 39 = .ok (.getfield 16, 3) := by decide +kernel
theorem dX4_foresee_42 : decode cX4_foresee 42 = .ok (.iload_n 1, 1) := by decide +kernel
theorem dX4_foresee_43 : decode cX4_foresee 43 = .ok (.invokevirtual 132, 3) := by decide +kernel
theorem dX4_foresee_46 : decode cX4_foresee 46 = .ok (.aload_n 0, 1) := by decide +kernel
theorem dX4_foresee_47 : decode cX4_foresee 47 = .ok (.getfield 16, 3) := by decide +kernel
theorem dX4_foresee_50 : decode cX4_foresee 50 = .ok (.iload_n 2, 1) := by decide +kernel
theorem dX4_foresee_51 : decode cX4_foresee 51 = .ok (.invokevirtual 120, 3) := by decide +kernel
theorem dX4_foresee_54 : decode cX4_foresee 54 = .ok (.ireturn, 1) := by decide +kernel
theorem dX4_advise_0 : decode cX4_advise 0 = .ok (.iload_n 1, 1) := by decide +kernel
theorem dX4_advise_1 : decode cX4_advise 1 = .ok (.bipush 40, 2) := by decide +kernel
theorem dX4_advise_3 : decode cX4_advise 3 = .ok (.invokestatic 128, 3) := by decide +kernel
theorem dX4_advise_6 : decode cX4_advise 6 = .ok (.iconst 4, 1) := by decide +kernel
theorem dX4_advise_7 : decode cX4_advise 7 = .ok (.istore_n 2, 1) := by decide +kernel
theorem dX4_advise_8 : decode cX4_advise 8 = .ok (.iconst (-1), 1) := by decide +kernel
theorem dX4_advise_9 : decode cX4_advise 9 = .ok (.istore_n 3, 1) := by decide +kernel
theorem dX4_advise_10 : decode cX4_advise 10 = .ok (.getstatic 144, 3) := by decide +kernel
theorem dX4_advise_13 : decode cX4_advise 13 = .ok (.astore 4, 2) := by decide +kernel
theorem dX4_advise_15 : decode cX4_advise 15 = .ok (.aload 4, 2) := by decide +kernel
theorem dX4_advise_17 : decode cX4_advise 17 = .ok (.arraylength, 1) := by decide +kernel
theorem dX4_advise_18 : decode cX4_advise 18 = .ok (.istore 5, 2) := by decide +kernel
theorem dX4_advise_20 : decode cX4_advise 20 = .ok (.iconst 0, 1) := by decide +kernel
theorem dX4_advise_21 : decode cX4_advise 21 = .ok (.istore 6, 2) := by decide +kernel
theorem dX4_advise_23 : decode cX4_advise 23 = .ok (.iload 6, 2) := by decide +kernel
theorem dX4_advise_25 : decode cX4_advise 25 = .ok (.iload 5, 2) := by decide +kernel
theorem dX4_advise_27 : decode cX4_advise 27 = .ok (.if_icmp .ge 67, 3) := by decide +kernel
theorem dX4_advise_30 : decode cX4_advise 30 = .ok (.aload 4, 2) := by decide +kernel
theorem dX4_advise_32 : decode cX4_advise 32 = .ok (.iload 6, 2) := by decide +kernel
theorem dX4_advise_34 : decode cX4_advise 34 = .ok (.iaload, 1) := by decide +kernel
theorem dX4_advise_35 : decode cX4_advise 35 = .ok (.istore 7, 2) := by decide +kernel
theorem dX4_advise_37 : decode cX4_advise 37 = .ok (.aload_n 0, 1) := by decide +kernel
theorem dX4_advise_38 : decode cX4_advise 38 = .ok (.getfield 16, 3) := by decide +kernel
theorem dX4_advise_41 : decode cX4_advise 41 = .ok (.aload_n 0, 1) := by decide +kernel
theorem dX4_advise_42 : decode cX4_advise 42 = .ok (.getfield 12, 3) := by decide +kernel
theorem dX4_advise_45 : decode cX4_advise 45 = .ok (.invokevirtual 135, 3) := by decide +kernel
theorem dX4_advise_48 : decode cX4_advise 48 = .ok (.aload_n 0, 1) := by decide +kernel
theorem dX4_advise_49 : decode cX4_advise 49 = .ok (.getfield 16, 3) := by decide +kernel
theorem dX4_advise_52 : decode cX4_advise 52 = .ok (.iload 7, 2) := by decide +kernel
theorem dX4_advise_54 : decode cX4_advise 54 = .ok (.putfield 59, 3) := by decide +kernel
theorem dX4_advise_57 : decode cX4_advise 57 = .ok (.aload_n 0, 1) := by decide +kernel
theorem dX4_advise_58 : decode cX4_advise 58 = .ok (.getfield 16, 3) := by decide +kernel
theorem dX4_advise_61 : decode cX4_advise 61 = .ok (.iload_n 1, 1) := by decide +kernel
theorem dX4_advise_62 : decode cX4_advise 62 = .ok (.invokevirtual 132, 3) := by decide +kernel
theorem dX4_advise_65 : decode cX4_advise 65 = .ok (.aload_n 0, 1) := by decide +kernel
theorem dX4_advise_66 : decode cX4_advise 66 = .ok (.getfield 16, 3) := by decide +kernel
theorem dX4_advise_69 : decode cX4_advise 69 = .ok (.bipush 11, 2) := by decide +kernel
theorem dX4_advise_71 : decode cX4_advise 71 = .ok (.invokevirtual 120, 3) := by decide +kernel
theorem dX4_advise_74 : decode cX4_advise 74 = .ok (.istore 8, 2) := by decide +kernel
theorem dX4_advise_76 : decode cX4_advise 76 = .ok (.iload 8, 2) := by decide +kernel
theorem dX4_advise_78 : decode cX4_advise 78 = .ok (.iload_n 3, 1) := by decide +kernel
theorem dX4_advise_79 : decode cX4_advise 79 = .ok (.if_icmp .le 9, 3) := by decide +kernel
theorem dX4_advise_82 : decode cX4_advise 82 = .ok (.iload 8, 2) := by decide +kernel
theorem dX4_advise_84 : decode cX4_advise 84 = .ok (.istore_n 3, 1) := by decide +kernel
theorem dX4_advise_85 : decode cX4_advise 85 = .ok (.iload 7, 2) := by decide +kernel
theorem dX4_advise_87 : decode cX4_advise 87 = .ok (.istore_n 2, 1) := by decide +kernel
theorem dX4_advise_88 : decode cX4_advise 88 = .ok (.iinc 6 1, 3) := by decide +kernel
theorem dX4_advise_91 : decode cX4_advise 91 = .ok (.goto (-68), 3) := by decide +kernel
theorem dX4_advise_94 : decode cX4_advise 94 = .ok (.iload_n 2, 1) := by decide +kernel
theorem dX4_advise_95 : decode cX4_advise 95 = .ok (.ireturn, 1) := by decide +kernel
theorem dX4_mean_0 : decode cX4_mean 0 = .ok (.aload_n 0, 1) := by decide +kernel
theorem dX4_mean_1 : decode cX4_mean 1 = .ok (.getfield 12, 3) := by decide +kernel
theorem dX4_mean_4 : decode cX4_mean 4 = .ok (.getfield 26, 3) := by decide +kernel
theorem dX4_mean_7 : decode cX4_mean 7 = .ok (.ifCond .ne 5, 3) := by decide +kernel
theorem dX4_mean_10 : decode cX4_mean 10 = .ok (.dconst 0, 1) := by decide +kernel
theorem dX4_mean_11 : decode cX4_mean 11 = .ok (.dreturn, 1) := by decide +kernel
theorem dX4_mean_12 : decode cX4_mean 12 = .ok (.aload_n 0, 1) := by decide +kernel
theorem dX4_mean_13 : decode cX4_mean 13 = .ok (.getfield 12, 3) := by decide +kernel
theorem dX4_mean_16 : decode cX4_mean 16 = .ok (.bipush 10, 2) := by decide +kernel
theorem dX4_mean_18 : decode cX4_mean 18 = .ok (.invokevirtual 120, 3) := by decide +kernel
theorem dX4_mean_21 : decode cX4_mean 21 = .ok (.i2d, 1) := by decide +kernel
theorem dX4_mean_22 : decode cX4_mean 22 = .ok (.aload_n 0, 1) := by decide +kernel
theorem dX4_mean_23 : decode cX4_mean 23 = .ok (.getfield 12, 3) := by decide +kernel
theorem dX4_mean_26 : decode cX4_mean 26 = .ok (.getfield 26, 3) := by decide +kernel
theorem dX4_mean_29 : decode cX4_mean 29 = .ok (.i2d, 1) := by decide +kernel
theorem dX4_mean_30 : decode cX4_mean 30 = .ok (.ddiv, 1) := by decide +kernel
theorem dX4_mean_31 : decode cX4_mean 31 = .ok (.dreturn, 1) := by decide +kernel
theorem dX4_digest_0 : decode cX4_digest 0 = .ok (.ldc2_w 148, 3) := by decide +kernel
theorem dX4_digest_3 : decode cX4_digest 3 = .ok (.lstore_n 1, 1) := by decide +kernel
theorem dX4_digest_4 : decode cX4_digest 4 = .ok (.iconst 0, 1) := by decide +kernel
theorem dX4_digest_5 : decode cX4_digest 5 = .ok (.istore_n 3, 1) := by decide +kernel
theorem dX4_digest_6 : decode cX4_digest 6 = .ok (.iload_n 3, 1) := by decide +kernel
theorem dX4_digest_7 : decode cX4_digest 7 = .ok (.bipush 13, 2) := by decide +kernel
theorem dX4_digest_9 : decode cX4_digest 9 = .ok (.if_icmp .ge 22, 3) := by decide +kernel
theorem dX4_digest_12 : decode cX4_digest 12 = .ok (.lload_n 1, 1) := by decide +kernel
theorem dX4_digest_13 : decode cX4_digest 13 = .ok (.aload_n 0, 1) := by decide +kernel
theorem dX4_digest_14 : decode cX4_digest 14 = .ok (.getfield 12, 3) := by decide +kernel
theorem dX4_digest_17 : decode cX4_digest 17 = .ok (.iload_n 3, 1) := by decide +kernel
theorem dX4_digest_18 : decode cX4_digest 18 = .ok (.invokevirtual 120, 3) := by decide +kernel
theorem dX4_digest_21 : decode cX4_digest 21 = .ok (.invokestatic 150, 3) := by decide +kernel
theorem dX4_digest_24 : decode cX4_digest 24 = .ok (.lstore_n 1, 1) := by decide +kernel
theorem dX4_digest_25 : decode cX4_digest 25 = .ok (.iinc 3 1, 3) := by decide +kernel
theorem dX4_digest_28 : decode cX4_digest 28 = .ok (.goto (-22), 3) := by decide +kernel
theorem dX4_digest_31 : decode cX4_digest 31 = .ok (.iconst 0, 1) := by decide +kernel
theorem dX4_digest_32 : decode cX4_digest 32 = .ok (.istore_n 3, 1) := by decide +kernel
theorem dX4_digest_33 : decode cX4_digest 33 = .ok (.iload_n 3, 1) := by decide +kernel
theorem dX4_digest_34 : decode cX4_digest 34 = .ok (.aload_n 0, 1) := by decide +kernel
theorem dX4_digest_35 : decode cX4_digest 35 = .ok (.getfield 12, 3) := by decide +kernel
theorem dX4_digest_38 : decode cX4_digest 38 = .ok (.getfield 26, 3) := by decide +kernel
theorem dX4_digest_41 : decode cX4_digest 41 = .ok (.if_icmp .ge 24, 3) := by decide +kernel
theorem dX4_digest_44 : decode cX4_digest 44 = .ok (.aload_n 0, 1) := by decide +kernel
theorem dX4_digest_45 : decode cX4_digest 45 = .ok (.lload_n 1, 1) := by decide +kernel
theorem dX4_digest_46 : decode cX4_digest 46 = .ok (.aload_n 0, 1) := by decide +kernel
theorem dX4_digest_47 : decode cX4_digest 47 = .ok (.getfield 12, 3) := by decide +kernel
theorem dX4_digest_50 : decode cX4_digest 50 = .ok (.getfield 48, 3) := by decide +kernel
theorem dX4_digest_53 : decode cX4_digest 53 = .ok (.iload_n 3, 1) := by decide +kernel
theorem dX4_digest_54 : decode cX4_digest 54 = .ok (.aaload, 1) := by decide +kernel
theorem dX4_digest_55 : decode cX4_digest 55 = .ok (.invokevirtual 154, 3) := by decide +kernel
theorem dX4_digest_58 : decode cX4_digest 58 = .ok (.lstore_n 1, 1) := by decide +kernel
theorem dX4_digest_59 : decode cX4_digest 59 = .ok (.iinc 3 1, 3) := by decide +kernel
theorem dX4_digest_62 : decode cX4_digest 62 = .ok (.goto (-29), 3) := by decide +kernel
theorem dX4_digest_65 : decode cX4_digest 65 = .ok (.iconst 0, 1) := by decide +kernel
theorem dX4_digest_66 : decode cX4_digest 66 = .ok (.istore_n 3, 1) := by decide +kernel
theorem dX4_digest_67 : decode cX4_digest 67 = .ok (.iload_n 3, 1) := by decide +kernel
theorem dX4_digest_68 : decode cX4_digest 68 = .ok (.aload_n 0, 1) := by decide +kernel
theorem dX4_digest_69 : decode cX4_digest 69 = .ok (.getfield 12, 3) := by decide +kernel
theorem dX4_digest_72 : decode cX4_digest 72 = .ok (.getfield 64, 3) := by decide +kernel
theorem dX4_digest_75 : decode cX4_digest 75 = .ok (.if_icmp .ge 44, 3) := by decide +kernel
theorem dX4_digest_78 : decode cX4_digest 78 = .ok (.iconst 0, 1) := by decide +kernel
theorem dX4_digest_79 : decode cX4_digest 79 = .ok (.istore 4, 2) := by decide +kernel
theorem dX4_digest_81 : decode cX4_digest 81 = .ok (.iload 4, 2) := by decide +kernel
theorem dX4_digest_83 : decode cX4_digest 83 = .ok (.bipush 7, 2) := by decide +kernel
theorem dX4_digest_85 : decode cX4_digest 85 = .ok (.if_icmp .ge 28, 3) := by decide +kernel
theorem dX4_digest_88 : decode cX4_digest 88 = .ok (.lload_n 1, 1) := by decide +kernel
theorem dX4_digest_89 : decode cX4_digest 89 = .ok (.aload_n 0, 1) := by decide +kernel
theorem dX4_digest_90 : decode cX4_digest 90 = .ok (.getfield 12, 3) := by decide +kernel
theorem dX4_digest_93 : decode cX4_digest 93 = .ok (.getfield 111, 3) := by decide +kernel
theorem dX4_digest_96 : decode cX4_digest 96 = .ok (.iload_n 3, 1) := by decide +kernel
theorem dX4_digest_97 : decode cX4_digest 97 = .ok (.aaload, 1) := by decide +kernel
theorem dX4_digest_98 : decode cX4_digest 98 = .ok (.iload 4, 2) := by decide +kernel
theorem dX4_digest_100 : decode cX4_digest 100 = .ok (.invokevirtual 115, 3) := by decide +kernel
theorem dX4_digest_103 : decode cX4_digest 103 = .ok (.invokestatic 150, 3) := by decide +kernel
theorem dX4_digest_106 : decode cX4_digest 106 = .ok (.lstore_n 1, 1) := by decide +kernel
theorem dX4_digest_107 : decode cX4_digest 107 = .ok (.iinc 4 1, 3) := by decide +kernel
theorem dX4_digest_110 : decode cX4_digest 110 = .ok (.goto (-29), 3) := by decide +kernel
theorem dX4_digest_113 : decode cX4_digest 113 = .ok (.iinc 3 1, 3) := by decide +kernel
theorem dX4_digest_116 : decode cX4_digest 116 = .ok (.goto (-49), 3) := by decide +kernel
theorem dX4_digest_119 : decode cX4_digest 119 = .ok (.lload_n 1, 1) := by decide +kernel
theorem dX4_digest_120 : decode cX4_digest 120 = .ok (.lreturn, 1) := by decide +kernel
theorem dX4_mixedWithLad_0 : decode cX4_mixedWithLad 0 = .ok (.lload_n 1, 1) := by decide +kernel
theorem dX4_mixedWithLad_1 : decode cX4_mixedWithLad 1 = .ok (.lstore 4, 2) := by decide +kernel
theorem dX4_mixedWithLad_3 : decode cX4_mixedWithLad 3 = .ok (.iconst 0, 1) := by decide +kernel
theorem dX4_mixedWithLad_4 : decode cX4_mixedWithLad 4 = .ok (.istore 6, 2) := by decide +kernel
theorem dX4_mixedWithLad_6 : decode cX4_mixedWithLad 6 = .ok (.iload 6, 2) := by decide +kernel
theorem dX4_mixedWithLad_8 : decode cX4_mixedWithLad 8 = .ok (.bipush 9, 2) := by decide +kernel
theorem dX4_mixedWithLad_10 : decode cX4_mixedWithLad 10 = .ok (.if_icmp .ge 22, 3) := by decide +kernel
theorem dX4_mixedWithLad_13 : decode cX4_mixedWithLad 13 = .ok (.lload 4, 2) := by decide +kernel
theorem dX4_mixedWithLad_15 : decode cX4_mixedWithLad 15 = .ok (.aload_n 3, 1) := by decide +kernel
theorem dX4_mixedWithLad_16 : decode cX4_mixedWithLad 16 = .ok (.iload 6, 2) := by decide +kernel
theorem dX4_mixedWithLad_18 : decode cX4_mixedWithLad 18 = .ok (.invokevirtual 95, 3) := by decide +kernel
theorem dX4_mixedWithLad_21 : decode cX4_mixedWithLad 21 = .ok (.invokestatic 150, 3) := by decide +kernel
theorem dX4_mixedWithLad_24 : decode cX4_mixedWithLad 24 = .ok (.lstore 4, 2) := by decide +kernel
theorem dX4_mixedWithLad_26 : decode cX4_mixedWithLad 26 = .ok (.iinc 6 1, 3) := by decide +kernel
theorem dX4_mixedWithLad_29 : decode cX4_mixedWithLad 29 = .ok (.goto (-23), 3) := by decide +kernel
theorem dX4_mixedWithLad_32 : decode cX4_mixedWithLad 32 = .ok (.iconst 0, 1) := by decide +kernel
theorem dX4_mixedWithLad_33 : decode cX4_mixedWithLad 33 = .ok (.istore 6, 2) := by decide +kernel
theorem dX4_mixedWithLad_35 : decode cX4_mixedWithLad 35 = .ok (.iload 6, 2) := by decide +kernel
theorem dX4_mixedWithLad_37 : decode cX4_mixedWithLad 37 = .ok (.aload_n 3, 1) := by decide +kernel
theorem dX4_mixedWithLad_38 : decode cX4_mixedWithLad 38 = .ok (.getfield 74, 3) := by decide +kernel
theorem dX4_mixedWithLad_41 : decode cX4_mixedWithLad 41 = .ok (.getfield 78, 3) := by decide +kernel
theorem dX4_mixedWithLad_44 : decode cX4_mixedWithLad 44 = .ok (.if_icmp .ge 32, 3) := by decide +kernel
theorem dX4_mixedWithLad_47 : decode cX4_mixedWithLad 47 = .ok (.lload 4, 2) := by decide +kernel
theorem dX4_mixedWithLad_49 : decode cX4_mixedWithLad 49 = .ok (.aload_n 0, 1) := by decide +kernel
theorem dX4_mixedWithLad_50 : decode cX4_mixedWithLad 50 = .ok (.getfield 12, 3) := by decide +kernel
theorem dX4_mixedWithLad_53 : decode cX4_mixedWithLad 53 = .ok (.aload_n 3, 1) := by decide +kernel
theorem dX4_mixedWithLad_54 : decode cX4_mixedWithLad 54 = .ok (.getfield 74, 3) := by decide +kernel
theorem dX4_mixedWithLad_57 : decode cX4_mixedWithLad 57 = .ok (.iload 6, 2) := by decide +kernel
theorem dX4_mixedWithLad_59 : decode cX4_mixedWithLad 59 = .ok (.invokevirtual 100, 3) := by decide +kernel
theorem dX4_mixedWithLad_62 : decode cX4_mixedWithLad 62 = .ok (.invokevirtual 103, 3) := by decide +kernel
theorem dX4_mixedWithLad_65 : decode cX4_mixedWithLad 65 = .ok (.invokestatic 150, 3) := by decide +kernel
theorem dX4_mixedWithLad_68 : decode cX4_mixedWithLad 68 = .ok (.lstore 4, 2) := by decide +kernel
theorem dX4_mixedWithLad_70 : decode cX4_mixedWithLad 70 = .ok (.iinc 6 1, 3) := by decide +kernel
theorem dX4_mixedWithLad_73 : decode cX4_mixedWithLad 73 = .ok (.goto (-38), 3) := by decide +kernel
theorem dX4_mixedWithLad_76 : decode cX4_mixedWithLad 76 = .ok (.lload 4, 2) := by decide +kernel
theorem dX4_mixedWithLad_78 : decode cX4_mixedWithLad 78 = .ok (.lreturn, 1) := by decide +kernel
theorem dX4_mixed_0 : decode cX4_mixed 0 = .ok (.lload_n 0, 1) := by decide +kernel
theorem dX4_mixed_1 : decode cX4_mixed 1 = .ok (.ldc2_w 158, 3) := by decide +kernel
theorem dX4_mixed_4 : decode cX4_mixed 4 = .ok (.lmul, 1) := by decide +kernel
theorem dX4_mixed_5 : decode cX4_mixed 5 = .ok (.iload_n 2, 1) := by decide +kernel
theorem dX4_mixed_6 : decode cX4_mixed 6 = .ok (.i2l, 1) := by decide +kernel
theorem dX4_mixed_7 : decode cX4_mixed 7 = .ok (.ladd, 1) := by decide +kernel
theorem dX4_mixed_8 : decode cX4_mixed 8 = .ok (.lreturn, 1) := by decide +kernel
theorem dX4_needLad_0 : decode cX4_needLad 0 = .ok (.iload_n 1, 1) := by decide +kernel
theorem dX4_needLad_1 : decode cX4_needLad 1 = .ok (.ifCond .lt 14, 3) := by decide +kernel
theorem dX4_needLad_4 : decode cX4_needLad 4 = .ok (.iload_n 1, 1) := by decide +kernel
theorem dX4_needLad_5 : decode cX4_needLad 5 = .ok (.aload_n 0, 1) := by decide +kernel
theorem dX4_needLad_6 : decode cX4_needLad 6 = .ok (.getfield 12, 3) := by decide +kernel
theorem dX4_needLad_9 : decode cX4_needLad 9 = .ok (.getfield 26, 3) := by decide +kernel
theorem dX4_needLad_12 : decode cX4_needLad 12 = .ok (.if_icmp .lt 13, 3) := by decide +kernel
theorem dX4_needLad_15 : decode cX4_needLad 15 = .ok (.new 43, 3) := by decide +kernel
theorem dX4_needLad_18 : decode cX4_needLad 18 = .ok (.dup, 1) := by decide +kernel
theorem dX4_needLad_19 : decode cX4_needLad 19 = .ok (.ldc 160, 2) := by decide +kernel
theorem dX4_needLad_21 : decode cX4_needLad 21 = .ok (.invokespecial 47, 3) := by decide +kernel
theorem dX4_needLad_24 : decode cX4_needLad 24 = .ok (.athrow, 1) := by decide +kernel
theorem dX4_needLad_25 : decode cX4_needLad 25 = .ok (.return_, 1) := by decide +kernel
theorem dX4_needLoad_0 : decode cX4_needLoad 0 = .ok (.iload_n 1, 1) := by decide +kernel
theorem dX4_needLoad_1 : decode cX4_needLoad 1 = .ok (.ifCond .lt 14, 3) := by decide +kernel
theorem dX4_needLoad_4 : decode cX4_needLoad 4 = .ok (.iload_n 1, 1) := by decide +kernel
theorem dX4_needLoad_5 : decode cX4_needLoad 5 = .ok (.aload_n 0, 1) := by decide +kernel
theorem dX4_needLoad_6 : decode cX4_needLoad 6 = .ok (.getfield 12, 3) := by decide +kernel
theorem dX4_needLoad_9 : decode cX4_needLoad 9 = .ok (.getfield 64, 3) := by decide +kernel
theorem dX4_needLoad_12 : decode cX4_needLoad 12 = .ok (.if_icmp .lt 13, 3) := by decide +kernel
theorem dX4_needLoad_15 : decode cX4_needLoad 15 = .ok (.new 43, 3) := by decide +kernel
theorem dX4_needLoad_18 : decode cX4_needLoad 18 = .ok (.dup, 1) := by decide +kernel
theorem dX4_needLoad_19 : decode cX4_needLoad 19 = .ok (.ldc 162, 2) := by decide +kernel
theorem dX4_needLoad_21 : decode cX4_needLoad 21 = .ok (.invokespecial 47, 3) := by decide +kernel
theorem dX4_needLoad_24 : decode cX4_needLoad 24 = .ok (.athrow, 1) := by decide +kernel
theorem dX4_needLoad_25 : decode cX4_needLoad 25 = .ok (.return_, 1) := by decide +kernel
theorem dX4_needMinutes_0 : decode cX4_needMinutes 0 = .ok (.iload_n 0, 1) := by decide +kernel
theorem dX4_needMinutes_1 : decode cX4_needMinutes 1 = .ok (.iconst 1, 1) := by decide +kernel
theorem dX4_needMinutes_2 : decode cX4_needMinutes 2 = .ok (.if_icmp .lt 8, 3) := by decide +kernel
theorem dX4_needMinutes_5 : decode cX4_needMinutes 5 = .ok (.iload_n 0, 1) := by decide +kernel
theorem dX4_needMinutes_6 : decode cX4_needMinutes 6 = .ok (.iload_n 1, 1) := by decide +kernel
theorem dX4_needMinutes_7 : decode cX4_needMinutes 7 = .ok (.if_icmp .le 13, 3) := by decide +kernel
theorem dX4_needMinutes_10 : decode cX4_needMinutes 10 = .ok (.new 19, 3) := by decide +kernel
theorem dX4_needMinutes_13 : decode cX4_needMinutes 13 = .ok (.dup, 1) := by decide +kernel
theorem dX4_needMinutes_14 : decode cX4_needMinutes 14 = .ok (.ldc 164, 2) := by decide +kernel
theorem dX4_needMinutes_16 : decode cX4_needMinutes 16 = .ok (.invokespecial 23, 3) := by decide +kernel
theorem dX4_needMinutes_19 : decode cX4_needMinutes 19 = .ok (.athrow, 1) := by decide +kernel
theorem dX4_needMinutes_20 : decode cX4_needMinutes 20 = .ok (.return_, 1) := by decide +kernel
theorem dX5_init_0 : decode cX5_init 0 = .ok (.aload_n 0, 1) := by decide +kernel
theorem dX5_init_1 : decode cX5_init 1 = .ok (.invokespecial 3, 3) := by decide +kernel
theorem dX5_init_4 : decode cX5_init 4 = .ok (.aload_n 0, 1) := by decide +kernel
theorem dX5_init_5 : decode cX5_init 5 = .ok (.bipush 6, 2) := by decide +kernel
theorem dX5_init_7 : decode cX5_init 7 = .ok (.newarray .int, 2) := by decide +kernel
theorem dX5_init_9 : decode cX5_init 9 = .ok (.putfield 9, 3) := by decide +kernel
theorem dX5_init_12 : decode cX5_init 12 = .ok (.aload_n 0, 1) := by decide +kernel
theorem dX5_init_13 : decode cX5_init 13 = .ok (.bipush 6, 2) := by decide +kernel
theorem dX5_init_15 : decode cX5_init 15 = .ok (.newarray .int, 2) := by decide +kernel
theorem dX5_init_17 : decode cX5_init 17 = .ok (.putfield 15, 3) := by decide +kernel
theorem dX5_init_20 : decode cX5_init 20 = .ok (.aload_n 0, 1) := by decide +kernel
theorem dX5_init_21 : decode cX5_init 21 = .ok (.bipush 6, 2) := by decide +kernel
theorem dX5_init_23 : decode cX5_init 23 = .ok (.newarray .int, 2) := by decide +kernel
theorem dX5_init_25 : decode cX5_init 25 = .ok (.putfield 18, 3) := by decide +kernel
theorem dX5_init_28 : decode cX5_init 28 = .ok (.aload_n 0, 1) := by decide +kernel
theorem dX5_init_29 : decode cX5_init 29 = .ok (.bipush 6, 2) := by decide +kernel
theorem dX5_init_31 : decode cX5_init 31 = .ok (.newarray .int, 2) := by decide +kernel
theorem dX5_init_33 : decode cX5_init 33 = .ok (.putfield 21, 3) := by decide +kernel
theorem dX5_init_36 : decode cX5_init 36 = .ok (.aload_n 0, 1) := by decide +kernel
theorem dX5_init_37 : decode cX5_init 37 = .ok (.bipush 6, 2) := by decide +kernel
theorem dX5_init_39 : decode cX5_init 39 = .ok (.newarray .int, 2) := by decide +kernel
theorem dX5_init_41 : decode cX5_init 41 = .ok (.putfield 24, 3) := by decide +kernel
theorem dX5_init_44 : decode cX5_init 44 = .ok (.aload_n 0, 1) := by decide +kernel
theorem dX5_init_45 : decode cX5_init 45 = .ok (.bipush 6, 2) := by decide +kernel
theorem dX5_init_47 : decode cX5_init 47 = .ok (.newarray .int, 2) := by decide +kernel
theorem dX5_init_49 : decode cX5_init 49 = .ok (.putfield 27, 3) := by decide +kernel
theorem dX5_init_52 : decode cX5_init 52 = .ok (.aload_n 0, 1) := by decide +kernel
theorem dX5_init_53 : decode cX5_init 53 = .ok (.bipush 6, 2) := by decide +kernel
theorem dX5_init_55 : decode cX5_init 55 = .ok (.newarray .int, 2) := by decide +kernel
theorem dX5_init_57 : decode cX5_init 57 = .ok (.putfield 30, 3) := by decide +kernel
theorem dX5_init_60 : decode cX5_init 60 = .ok (.aload_n 0, 1) := by decide +kernel
theorem dX5_init_61 : decode cX5_init 61 = .ok (.bipush 48, 2) := by decide +kernel
theorem dX5_init_63 : decode cX5_init 63 = .ok (.newarray .int, 2) := by decide +kernel
theorem dX5_init_65 : decode cX5_init 65 = .ok (.putfield 33, 3) := by decide +kernel
theorem dX5_init_68 : decode cX5_init 68 = .ok (.aload_n 0, 1) := by decide +kernel
theorem dX5_init_69 : decode cX5_init 69 = .ok (.bipush 10, 2) := by decide +kernel
theorem dX5_init_71 : decode cX5_init 71 = .ok (.newarray .int, 2) := by decide +kernel
theorem dX5_init_73 : decode cX5_init 73 = .ok (.putfield 36, 3) := by decide +kernel
theorem dX5_init_76 : decode cX5_init 76 = .ok (.aload_n 0, 1) := by decide +kernel
theorem dX5_init_77 : decode cX5_init 77 = .ok (.bipush 10, 2) := by decide +kernel
theorem dX5_init_79 : decode cX5_init 79 = .ok (.newarray .int, 2) := by decide +kernel
theorem dX5_init_81 : decode cX5_init 81 = .ok (.putfield 39, 3) := by decide +kernel
theorem dX5_init_84 : decode cX5_init 84 = .ok (.aload_n 0, 1) := by decide +kernel
theorem dX5_init_85 : decode cX5_init 85 = .ok (.bipush 10, 2) := by decide +kernel
theorem dX5_init_87 : decode cX5_init 87 = .ok (.newarray .int, 2) := by decide +kernel
theorem dX5_init_89 : decode cX5_init 89 = .ok (.putfield 42, 3) := by decide +kernel
theorem dX5_init_92 : decode cX5_init 92 = .ok (.aload_n 0, 1) := by decide +kernel
theorem dX5_init_93 : decode cX5_init 93 = .ok (.bipush 10, 2) := by decide +kernel
theorem dX5_init_95 : decode cX5_init 95 = .ok (.newarray .int, 2) := by decide +kernel
theorem dX5_init_97 : decode cX5_init 97 = .ok (.putfield 45, 3) := by decide +kernel
theorem dX5_init_100 : decode cX5_init 100 = .ok (.aload_n 0, 1) := by decide +kernel
theorem dX5_init_101 : decode cX5_init 101 = .ok (.bipush 10, 2) := by decide +kernel
theorem dX5_init_103 : decode cX5_init 103 = .ok (.newarray .int, 2) := by decide +kernel
theorem dX5_init_105 : decode cX5_init 105 = .ok (.putfield 48, 3) := by decide +kernel
theorem dX5_init_108 : decode cX5_init 108 = .ok (.aload_n 0, 1) := by decide +kernel
theorem dX5_init_109 : decode cX5_init 109 = .ok (.bipush 10, 2) := by decide +kernel
theorem dX5_init_111 : decode cX5_init 111 = .ok (.newarray .int, 2) := by decide +kernel
theorem dX5_init_113 : decode cX5_init 113 = .ok (.putfield 51, 3) := by decide +kernel
theorem dX5_init_116 : decode cX5_init 116 = .ok (.aload_n 0, 1) := by decide +kernel
theorem dX5_init_117 : decode cX5_init 117 = .ok (.sipush 600, 3) := by decide +kernel
theorem dX5_init_120 : decode cX5_init 120 = .ok (.newarray .int, 2) := by decide +kernel
theorem dX5_init_122 : decode cX5_init 122 = .ok (.putfield 54, 3) := by decide +kernel
theorem dX5_init_125 : decode cX5_init 125 = .ok (.aload_n 0, 1) := by decide +kernel
theorem dX5_init_126 : decode cX5_init 126 = .ok (.sipush 600, 3) := by decide +kernel
theorem dX5_init_129 : decode cX5_init 129 = .ok (.newarray .int, 2) := by decide +kernel
theorem dX5_init_131 : decode cX5_init 131 = .ok (.putfield 57, 3) := by decide +kernel
theorem dX5_init_134 : decode cX5_init 134 = .ok (.aload_n 0, 1) := by decide +kernel
theorem dX5_init_135 : decode cX5_init 135 = .ok (.sipush 600, 3) := by decide +kernel
theorem dX5_init_138 : decode cX5_init 138 = .ok (.newarray .int, 2) := by decide +kernel
theorem dX5_init_140 : decode cX5_init 140 = .ok (.putfield 60, 3) := by decide +kernel
theorem dX5_init_143 : decode cX5_init 143 = .ok (.aload_n 0, 1) := by decide +kernel
theorem dX5_init_144 : decode cX5_init 144 = .ok (.sipush 600, 3) := by decide +kernel
theorem dX5_init_147 : decode cX5_init 147 = .ok (.newarray .int, 2) := by decide +kernel
theorem dX5_init_149 : decode cX5_init 149 = .ok (.putfield 63, 3) := by decide +kernel
theorem dX5_init_152 : decode cX5_init 152 = .ok (.aload_n 0, 1) := by decide +kernel
theorem dX5_init_153 : decode cX5_init 153 = .ok (.sipush 600, 3) := by decide +kernel
theorem dX5_init_156 : decode cX5_init 156 = .ok (.newarray .int, 2) := by decide +kernel
theorem dX5_init_158 : decode cX5_init 158 = .ok (.putfield 66, 3) := by decide +kernel
theorem dX5_init_161 : decode cX5_init 161 = .ok (.aload_n 0, 1) := by decide +kernel
theorem dX5_init_162 : decode cX5_init 162 = .ok (.sipush 600, 3) := by decide +kernel
theorem dX5_init_165 : decode cX5_init 165 = .ok (.newarray .int, 2) := by decide +kernel
theorem dX5_init_167 : decode cX5_init 167 = .ok (.putfield 69, 3) := by decide +kernel
theorem dX5_init_170 : decode cX5_init 170 = .ok (.return_, 1) := by decide +kernel
theorem dX5_copy_0 : decode cX5_copy 0 = .ok (.aload_n 0, 1) := by decide +kernel
theorem dX5_copy_1 : decode cX5_copy 1 = .ok (.iconst 0, 1) := by decide +kernel
theorem dX5_copy_2 : decode cX5_copy 2 = .ok (.aload_n 1, 1) := by decide +kernel
theorem dX5_copy_3 : decode cX5_copy 3 = .ok (.iconst 0, 1) := by decide +kernel
theorem dX5_copy_4 : decode cX5_copy 4 = .ok (.iload_n 2, 1) := by decide +kernel
theorem dX5_copy_5 : decode cX5_copy 5 = .ok (.invokestatic 72, 3) := by decide +kernel
theorem dX5_copy_8 : decode cX5_copy 8 = .ok (.return_, 1) := by decide +kernel
theorem dX5_become_0 : decode cX5_become 0 = .ok (.aload_n 0, 1) := by decide +kernel
theorem dX5_become_1 : decode cX5_become 1 = .ok (.aload_n 1, 1) := by decide +kernel
theorem dX5_become_2 : decode cX5_become 2 = .ok (.getfield 78, 3) := by decide +kernel
theorem dX5_become_5 : decode cX5_become 5 = .ok (.putfield 78, 3) := by decide +kernel
theorem dX5_become_8 : decode cX5_become 8 = .ok (.aload_n 0, 1) := by decide +kernel
theorem dX5_become_9 : decode cX5_become 9 = .ok (.aload_n 1, 1) := by decide +kernel
theorem dX5_become_10 : decode cX5_become 10 = .ok (.getfield 82, 3) := by decide +kernel
theorem dX5_become_13 : decode cX5_become 13 = .ok (.putfield 82, 3) := by decide +kernel
theorem dX5_become_16 : decode cX5_become 16 = .ok (.aload_n 0, 1) := by decide +kernel
theorem dX5_become_17 : decode cX5_become 17 = .ok (.aload_n 1, 1) := by decide +kernel
theorem dX5_become_18 : decode cX5_become 18 = .ok (.getfield 85, 3) := by decide +kernel
theorem dX5_become_21 : decode cX5_become 21 = .ok (.putfield 85, 3) := by decide +kernel
theorem dX5_become_24 : decode cX5_become 24 = .ok (.aload_n 0, 1) := by decide +kernel
theorem dX5_become_25 : decode cX5_become 25 = .ok (.aload_n 1, 1) := by decide +kernel
theorem dX5_become_26 : decode cX5_become 26 = .ok (.getfield 88, 3) := by decide +kernel
theorem dX5_become_29 : decode cX5_become 29 = .ok (.putfield 88, 3) := by decide +kernel
theorem dX5_become_32 : decode cX5_become 32 = .ok (.aload_n 0, 1) := by decide +kernel
theorem dX5_become_33 : decode cX5_become 33 = .ok (.aload_n 1, 1) := by decide +kernel
theorem dX5_become_34 : decode cX5_become 34 = .ok (.getfield 91, 3) := by decide +kernel
theorem dX5_become_37 : decode cX5_become 37 = .ok (.putfield 91, 3) := by decide +kernel
theorem dX5_become_40 : decode cX5_become 40 = .ok (.aload_n 0, 1) := by decide +kernel
theorem dX5_become_41 : decode cX5_become 41 = .ok (.aload_n 1, 1) := by decide +kernel
theorem dX5_become_42 : decode cX5_become 42 = .ok (.getfield 94, 3) := by decide +kernel
theorem dX5_become_45 : decode cX5_become 45 = .ok (.putfield 94, 3) := by decide +kernel
theorem dX5_become_48 : decode cX5_become 48 = .ok (.aload_n 1, 1) := by decide +kernel
theorem dX5_become_49 : decode cX5_become 49 = .ok (.getfield 9, 3) := by decide +kernel
theorem dX5_become_52 : decode cX5_become 52 = .ok (.aload_n 0, 1) := by decide +kernel
theorem dX5_become_53 : decode cX5_become 53 = .ok (.getfield 9, 3) := by decide +kernel
theorem dX5_become_56 : decode cX5_become 56 = .ok (.bipush 6, 2) := by decide +kernel
theorem dX5_become_58 : decode cX5_become 58 = .ok (.invokestatic 97, 3) := by decide +kernel
theorem dX5_become_61 : decode cX5_become 61 = .ok (.aload_n 1, 1) := by decide +kernel
theorem dX5_become_62 : decode cX5_become 62 = .ok (.getfield 15, 3) := by decide +kernel
theorem dX5_become_65 : decode cX5_become 65 = .ok (.aload_n 0, 1) := by decide +kernel
theorem dX5_become_66 : decode cX5_become 66 = .ok (.getfield 15, 3) := by decide +kernel
theorem dX5_become_69 : decode cX5_become 69 = .ok (.bipush 6, 2) := by decide +kernel
theorem dX5_become_71 : decode cX5_become 71 = .ok (.invokestatic 97, 3) := by decide +kernel
theorem dX5_become_74 : decode cX5_become 74 = .ok (.aload_n 1, 1) := by decide +kernel
theorem dX5_become_75 : decode cX5_become 75 = .ok (.getfield 18, 3) := by decide +kernel
theorem dX5_become_78 : decode cX5_become 78 = .ok (.aload_n 0, 1) := by decide +kernel
theorem dX5_become_79 : decode cX5_become 79 = .ok (.getfield 18, 3) := by decide +kernel
theorem dX5_become_82 : decode cX5_become 82 = .ok (.bipush 6, 2) := by decide +kernel
theorem dX5_become_84 : decode cX5_become 84 = .ok (.invokestatic 97, 3) := by decide +kernel
theorem dX5_become_87 : decode cX5_become 87 = .ok (.aload_n 1, 1) := by decide +kernel
theorem dX5_become_88 : decode cX5_become 88 = .ok (.getfield 21, 3) := by decide +kernel
theorem dX5_become_91 : decode cX5_become 91 = .ok (.aload_n 0, 1) := by decide +kernel
theorem dX5_become_92 : decode cX5_become 92 = .ok (.getfield 21, 3) := by decide +kernel
theorem dX5_become_95 : decode cX5_become 95 = .ok (.bipush 6, 2) := by decide +kernel
theorem dX5_become_97 : decode cX5_become 97 = .ok (.invokestatic 97, 3) := by decide +kernel
theorem dX5_become_100 : decode cX5_become 100 = .ok (.aload_n 1, 1) := by decide +kernel
theorem dX5_become_101 : decode cX5_become 101 = .ok (.getfield 24, 3) := by decide +kernel
theorem dX5_become_104 : decode cX5_become 104 = .ok (.aload_n 0, 1) := by decide +kernel
theorem dX5_become_105 : decode cX5_become 105 = .ok (.getfield 24, 3) := by decide +kernel
theorem dX5_become_108 : decode cX5_become 108 = .ok (.bipush 6, 2) := by decide +kernel
theorem dX5_become_110 : decode cX5_become 110 = .ok (.invokestatic 97, 3) := by decide +kernel
theorem dX5_become_113 : decode cX5_become 113 = .ok (.aload_n 1, 1) := by decide +kernel
theorem dX5_become_114 : decode cX5_become 114 = .ok (.getfield 27, 3) := by decide +kernel
theorem dX5_become_117 : decode cX5_become 117 = .ok (.aload_n 0, 1) := by decide +kernel
theorem dX5_become_118 : decode cX5_become 118 = .ok (.getfield 27, 3) := by decide +kernel
theorem dX5_become_121 : decode cX5_become 121 = .ok (.bipush 6, 2) := by decide +kernel
theorem dX5_become_123 : decode cX5_become 123 = .ok (.invokestatic 97, 3) := by decide +kernel
theorem dX5_become_126 : decode cX5_become 126 = .ok (.aload_n 1, 1) := by decide +kernel
theorem dX5_become_127 : decode cX5_become 127 = .ok (.getfield 30, 3) := by decide +kernel
theorem dX5_become_130 : decode cX5_become 130 = .ok (.aload_n 0, 1) := by decide +kernel
theorem dX5_become_131 : decode cX5_become 131 = .ok (.getfield 30, 3) := by decide +kernel
theorem dX5_become_134 : decode cX5_become 134 = .ok (.bipush 6, 2) := by decide +kernel
theorem dX5_become_136 : decode cX5_become 136 = .ok (.invokestatic 97, 3) := by decide +kernel
theorem dX5_become_139 : decode cX5_become 139 = .ok (.aload_n 1, 1) := by decide +kernel
theorem dX5_become_140 : decode cX5_become 140 = .ok (.getfield 33, 3) := by decide +kernel
theorem dX5_become_143 : decode cX5_become 143 = .ok (.aload_n 0, 1) := by decide +kernel
theorem dX5_become_144 : decode cX5_become 144 = .ok (.getfield 33, 3) := by decide +kernel
theorem dX5_become_147 : decode cX5_become 147 = .ok (.bipush 48, 2) := by decide +kernel
theorem dX5_become_149 : decode cX5_become 149 = .ok (.invokestatic 97, 3) := by decide +kernel
theorem dX5_become_152 : decode cX5_become 152 = .ok (.aload_n 1, 1) := by decide +kernel
theorem dX5_become_153 : decode cX5_become 153 = .ok (.getfield 36, 3) := by decide +kernel
theorem dX5_become_156 : decode cX5_become 156 = .ok (.aload_n 0, 1) := by decide +kernel
theorem dX5_become_157 : decode cX5_become 157 = .ok (.getfield 36, 3) := by decide +kernel
theorem dX5_become_160 : decode cX5_become 160 = .ok (.bipush 10, 2) := by decide +kernel
theorem dX5_become_162 : decode cX5_become 162 = .ok (.invokestatic 97, 3) := by decide +kernel
theorem dX5_become_165 : decode cX5_become 165 = .ok (.aload_n 1, 1) := by decide +kernel
theorem dX5_become_166 : decode cX5_become 166 = .ok (.getfield 39, 3) := by decide +kernel
theorem dX5_become_169 : decode cX5_become 169 = .ok (.aload_n 0, 1) := by decide +kernel
theorem dX5_become_170 : decode cX5_become 170 = .ok (.getfield 39, 3) := by decide +kernel
theorem dX5_become_173 : decode cX5_become 173 = .ok (.bipush 10, 2) := by decide +kernel
theorem dX5_become_175 : decode cX5_become 175 = .ok (.invokestatic 97, 3) := by decide +kernel
theorem dX5_become_178 : decode cX5_become 178 = .ok (.aload_n 1, 1) := by decide +kernel
theorem dX5_become_179 : decode cX5_become 179 = .ok (.getfield 42, 3) := by decide +kernel
theorem dX5_become_182 : decode cX5_become 182 = .ok (.aload_n 0, 1) := by decide +kernel
theorem dX5_become_183 : decode cX5_become 183 = .ok (.getfield 42, 3) := by decide +kernel
theorem dX5_become_186 : decode cX5_become 186 = .ok (.bipush 10, 2) := by decide +kernel
theorem dX5_become_188 : decode cX5_become 188 = .ok (.invokestatic 97, 3) := by decide +kernel
theorem dX5_become_191 : decode cX5_become 191 = .ok (.aload_n 1, 1) := by decide +kernel
theorem dX5_become_192 : decode cX5_become 192 = .ok (.getfield 45, 3) := by decide +kernel
theorem dX5_become_195 : decode cX5_become 195 = .ok (.aload_n 0, 1) := by decide +kernel
theorem dX5_become_196 : decode cX5_become 196 = .ok (.getfield 45, 3) := by decide +kernel
theorem dX5_become_199 : decode cX5_become 199 = .ok (.bipush 10, 2) := by decide +kernel
theorem dX5_become_201 : decode cX5_become 201 = .ok (.invokestatic 97, 3) := by decide +kernel
theorem dX5_become_204 : decode cX5_become 204 = .ok (.aload_n 1, 1) := by decide +kernel
theorem dX5_become_205 : decode cX5_become 205 = .ok (.getfield 48, 3) := by decide +kernel
theorem dX5_become_208 : decode cX5_become 208 = .ok (.aload_n 0, 1) := by decide +kernel
theorem dX5_become_209 : decode cX5_become 209 = .ok (.getfield 48, 3) := by decide +kernel
theorem dX5_become_212 : decode cX5_become 212 = .ok (.bipush 10, 2) := by decide +kernel
theorem dX5_become_214 : decode cX5_become 214 = .ok (.invokestatic 97, 3) := by decide +kernel
theorem dX5_become_217 : decode cX5_become 217 = .ok (.aload_n 1, 1) := by decide +kernel
theorem dX5_become_218 : decode cX5_become 218 = .ok (.getfield 51, 3) := by decide +kernel
theorem dX5_become_221 : decode cX5_become 221 = .ok (.aload_n 0, 1) := by decide +kernel
theorem dX5_become_222 : decode cX5_become 222 = .ok (.getfield 51, 3) := by decide +kernel
theorem dX5_become_225 : decode cX5_become 225 = .ok (.bipush 10, 2) := by decide +kernel
theorem dX5_become_227 : decode cX5_become 227 = .ok (.invokestatic 97, 3) := by decide +kernel
theorem dX5_become_230 : decode cX5_become 230 = .ok (.aload_n 1, 1) := by decide +kernel
theorem dX5_become_231 : decode cX5_become 231 = .ok (.getfield 54, 3) := by decide +kernel
theorem dX5_become_234 : decode cX5_become 234 = .ok (.aload_n 0, 1) := by decide +kernel
theorem dX5_become_235 : decode cX5_become 235 = .ok (.getfield 54, 3) := by decide +kernel
theorem dX5_become_238 : decode cX5_become 238 = .ok (.aload_n 0, 1) := by decide +kernel
theorem dX5_become_239 : decode cX5_become 239 = .ok (.getfield 94, 3) := by decide +kernel
theorem dX5_become_242 : decode cX5_become 242 = .ok (.invokestatic 97, 3) := by decide +kernel
theorem dX5_become_245 : decode cX5_become 245 = .ok (.aload_n 1, 1) := by decide +kernel
theorem dX5_become_246 : decode cX5_become 246 = .ok (.getfield 57, 3) := by decide +kernel
theorem dX5_become_249 : decode cX5_become 249 = .ok (.aload_n 0, 1) := by decide +kernel
theorem dX5_become_250 : decode cX5_become 250 = .ok (.getfield 57, 3) := by decide +kernel
theorem dX5_become_253 : decode cX5_become 253 = .ok (.aload_n 0, 1) := by decide +kernel
theorem dX5_become_254 : decode cX5_become 254 = .ok (.getfield 94, 3) := by decide +kernel
theorem dX5_become_257 : decode cX5_become 257 = .ok (.invokestatic 97, 3) := by decide +kernel
theorem dX5_become_260 : decode cX5_become 260 = .ok (.aload_n 1, 1) := by decide +kernel
theorem dX5_become_261 : decode cX5_become 261 = .ok (.getfield 60, 3) := by decide +kernel
theorem dX5_become_264 : decode cX5_become 264 = .ok (.aload_n 0, 1) := by decide +kernel
theorem dX5_become_265 : decode cX5_become 265 = .ok (.getfield 60, 3) := by decide +kernel
theorem dX5_become_268 : decode cX5_become 268 = .ok (.aload_n 0, 1) := by decide +kernel
theorem dX5_become_269 : decode cX5_become 269 = .ok (.getfield 94, 3) := by decide +kernel
theorem dX5_become_272 : decode cX5_become 272 = .ok (.invokestatic 97, 3) := by decide +kernel
theorem dX5_become_275 : decode cX5_become 275 = .ok (.aload_n 1, 1) := by decide +kernel
theorem dX5_become_276 : decode cX5_become 276 = .ok (.getfield 63, 3) := by decide +kernel
theorem dX5_become_279 : decode cX5_become 279 = .ok (.aload_n 0, 1) := by decide +kernel
theorem dX5_become_280 : decode cX5_become 280 = .ok (.getfield 63, 3) := by decide +kernel
theorem dX5_become_283 : decode cX5_become 283 = .ok (.aload_n 0, 1) := by decide +kernel
theorem dX5_become_284 : decode cX5_become 284 = .ok (.getfield 94, 3) := by decide +kernel
theorem dX5_become_287 : decode cX5_become 287 = .ok (.invokestatic 97, 3) := by decide +kernel
theorem dX5_become_290 : decode cX5_become 290 = .ok (.aload_n 1, 1) := by decide +kernel
theorem dX5_become_291 : decode cX5_become 291 = .ok (.getfield 66, 3) := by decide +kernel
theorem dX5_become_294 : decode cX5_become 294 = .ok (.aload_n 0, 1) := by decide +kernel
theorem dX5_become_295 : decode cX5_become 295 = .ok (.getfield 66, 3) := by decide +kernel
theorem dX5_become_298 : decode cX5_become 298 = .ok (.aload_n 0, 1) := by decide +kernel
theorem dX5_become_299 : decode cX5_become 299 = .ok (.getfield 94, 3) := by decide +kernel
theorem dX5_become_302 : decode cX5_become 302 = .ok (.invokestatic 97, 3) := by decide +kernel
theorem dX5_become_305 : decode cX5_become 305 = .ok (.aload_n 1, 1) := by decide +kernel
theorem dX5_become_306 : decode cX5_become 306 = .ok (.getfield 69, 3) := by decide +kernel
theorem dX5_become_309 : decode cX5_become 309 = .ok (.aload_n 0, 1) := by decide +kernel
theorem dX5_become_310 : decode cX5_become 310 = .ok (.getfield 69, 3) := by decide +kernel
theorem dX5_become_313 : decode cX5_become 313 = .ok (.aload_n 0, 1) := by decide +kernel
theorem dX5_become_314 : decode cX5_become 314 = .ok (.getfield 94, 3) := by decide +kernel
theorem dX5_become_317 : decode cX5_become 317 = .ok (.invokestatic 97, 3) := by decide +kernel
theorem dX5_become_320 : decode cX5_become 320 = .ok (.aload_n 0, 1) := by decide +kernel
theorem dX5_become_321 : decode cX5_become 321 = .ok (.areturn, 1) := by decide +kernel
theorem dX5_add_0 : decode cX5_add 0 = .ok (.aload_n 0, 1) := by decide +kernel
theorem dX5_add_1 : decode cX5_add 1 = .ok (.getfield 54, 3) := by decide +kernel
theorem dX5_add_4 : decode cX5_add 4 = .ok (.aload_n 0, 1) := by decide +kernel
theorem dX5_add_5 : decode cX5_add 5 = .ok (.getfield 94, 3) := by decide +kernel
theorem dX5_add_8 : decode cX5_add 8 = .ok (.iload_n 1, 1) := by decide +kernel
theorem dX5_add_9 : decode cX5_add 9 = .ok (.iastore, 1) := by decide +kernel
theorem dX5_add_10 : decode cX5_add 10 = .ok (.aload_n 0, 1) := by decide +kernel
theorem dX5_add_11 : decode cX5_add 11 = .ok (.getfield 57, 3) := by decide +kernel
theorem dX5_add_14 : decode cX5_add 14 = .ok (.aload_n 0, 1) := by decide +kernel
theorem dX5_add_15 : decode cX5_add 15 = .ok (.getfield 94, 3) := by decide +kernel
theorem dX5_add_18 : decode cX5_add 18 = .ok (.iload_n 1, 1) := by decide +kernel
theorem dX5_add_19 : decode cX5_add 19 = .ok (.iastore, 1) := by decide +kernel
theorem dX5_add_20 : decode cX5_add 20 = .ok (.aload_n 0, 1) := by decide +kernel
theorem dX5_add_21 : decode cX5_add 21 = .ok (.getfield 60, 3) := by decide +kernel
theorem dX5_add_24 : decode cX5_add 24 = .ok (.aload_n 0, 1) := by decide +kernel
theorem dX5_add_25 : decode cX5_add 25 = .ok (.getfield 94, 3) := by decide +kernel
theorem dX5_add_28 : decode cX5_add 28 = .ok (.iload_n 2, 1) := by decide +kernel
theorem dX5_add_29 : decode cX5_add 29 = .ok (.iastore, 1) := by decide +kernel
theorem dX5_add_30 : decode cX5_add 30 = .ok (.aload_n 0, 1) := by decide +kernel
theorem dX5_add_31 : decode cX5_add 31 = .ok (.getfield 63, 3) := by decide +kernel
theorem dX5_add_34 : decode cX5_add 34 = .ok (.aload_n 0, 1) := by decide +kernel
theorem dX5_add_35 : decode cX5_add 35 = .ok (.getfield 94, 3) := by decide +kernel
theorem dX5_add_38 : decode cX5_add 38 = .ok (.iload_n 3, 1) := by decide +kernel
theorem dX5_add_39 : decode cX5_add 39 = .ok (.iastore, 1) := by decide +kernel
theorem dX5_add_40 : decode cX5_add 40 = .ok (.aload_n 0, 1) := by decide +kernel
theorem dX5_add_41 : decode cX5_add 41 = .ok (.getfield 66, 3) := by decide +kernel
theorem dX5_add_44 : decode cX5_add 44 = .ok (.aload_n 0, 1) := by decide +kernel
theorem dX5_add_45 : decode cX5_add 45 = .ok (.getfield 94, 3) := by decide +kernel
theorem dX5_add_48 : decode cX5_add 48 = .ok (.iconst (-1), 1) := by decide +kernel
theorem dX5_add_49 : decode cX5_add 49 = .ok (.iastore, 1) := by decide +kernel
theorem dX5_add_50 : decode cX5_add 50 = .ok (.aload_n 0, 1) := by decide +kernel
theorem dX5_add_51 : decode cX5_add 51 = .ok (.getfield 69, 3) := by decide +kernel
theorem dX5_add_54 : decode cX5_add 54 = .ok (.aload_n 0, 1) := by decide +kernel
theorem dX5_add_55 : decode cX5_add 55 = .ok (.getfield 94, 3) := by decide +kernel
theorem dX5_add_58 : decode cX5_add 58 = .ok (.iconst 0, 1) := by decide +kernel
theorem dX5_add_59 : decode cX5_add 59 = .ok (.iastore, 1) := by decide +kernel
theorem dX5_add_60 : decode cX5_add 60 = .ok (.aload_n 0, 1) := by decide +kernel
theorem dX5_add_61 : decode cX5_add 61 = .ok (.dup, 1) := by decide +kernel
theorem dX5_add_62 : decode cX5_add 62 = .ok (.getfield 94, 3) := by decide +kernel
theorem dX5_add_65 : decode cX5_add 65 = .ok (.iconst 1, 1) := by decide +kernel
theorem dX5_add_66 : decode cX5_add 66 = .ok (.iadd, 1) := by decide +kernel
theorem dX5_add_67 : decode cX5_add 67 = .ok (.putfield 94, 3) := by decide +kernel
theorem dX5_add_70 : decode cX5_add 70 = .ok (.aload_n 0, 1) := by decide +kernel
theorem dX5_add_71 : decode cX5_add 71 = .ok (.getfield 94, 3) := by decide +kernel
theorem dX5_add_74 : decode cX5_add 74 = .ok (.iconst 1, 1) := by decide +kernel
theorem dX5_add_75 : decode cX5_add 75 = .ok (.isub, 1) := by decide +kernel
theorem dX5_add_76 : decode cX5_add 76 = .ok (.ireturn, 1) := by decide +kernel
theorem dX5_far_0 : decode cX5_far 0 = .ok (.aload_n 0, 1) := by decide +kernel
theorem dX5_far_1 : decode cX5_far 1 = .ok (.getfield 33, 3) := by decide +kernel
theorem dX5_far_4 : decode cX5_far 4 = .ok (.bipush 8, 2) := by decide +kernel
theorem dX5_far_6 : decode cX5_far 6 = .ok (.iload_n 1, 1) := by decide +kernel
theorem dX5_far_7 : decode cX5_far 7 = .ok (.imul, 1) := by decide +kernel
theorem dX5_far_8 : decode cX5_far 8 = .ok (.aload_n 0, 1) := by decide +kernel
theorem dX5_far_9 : decode cX5_far 9 = .ok (.getfield 30, 3) := by decide +kernel
theorem dX5_far_12 : decode cX5_far 12 = .ok (.iload_n 1, 1) := by decide +kernel
theorem dX5_far_13 : decode cX5_far 13 = .ok (.iaload, 1) := by decide +kernel
theorem dX5_far_14 : decode cX5_far 14 = .ok (.iadd, 1) := by decide +kernel
theorem dX5_far_15 : decode cX5_far 15 = .ok (.iconst 1, 1) := by decide +kernel
theorem dX5_far_16 : decode cX5_far 16 = .ok (.isub, 1) := by decide +kernel
theorem dX5_far_17 : decode cX5_far 17 = .ok (.iaload, 1) := by decide +kernel
theorem dX5_far_18 : decode cX5_far 18 = .ok (.ireturn, 1) := by decide +kernel
theorem dX5_putNear_0 : decode cX5_putNear 0 = .ok (.aload_n 0, 1) := by decide +kernel
theorem dX5_putNear_1 : decode cX5_putNear 1 = .ok (.getfield 33, 3) := by decide +kernel
theorem dX5_putNear_4 : decode cX5_putNear 4 = .ok (.bipush 8, 2) := by decide +kernel
theorem dX5_putNear_6 : decode cX5_putNear 6 = .ok (.iload_n 1, 1) := by decide +kernel
theorem dX5_putNear_7 : decode cX5_putNear 7 = .ok (.imul, 1) := by decide +kernel
theorem dX5_putNear_8 : decode cX5_putNear 8 = .ok (.aload_n 0, 1) := by decide +kernel
theorem dX5_putNear_9 : decode cX5_putNear 9 = .ok (.getfield 33, 3) := by decide +kernel
theorem dX5_putNear_12 : decode cX5_putNear 12 = .ok (.bipush 8, 2) := by decide +kernel
theorem dX5_putNear_14 : decode cX5_putNear 14 = .ok (.iload_n 1, 1) := by decide +kernel
theorem dX5_putNear_15 : decode cX5_putNear 15 = .ok (.imul, 1) := by decide +kernel
theorem dX5_putNear_16 : decode cX5_putNear 16 = .ok (.iconst 1, 1) := by decide +kernel
theorem dX5_putNear_17 : decode cX5_putNear 17 = .ok (.iadd, 1) := by decide +kernel
theorem dX5_putNear_18 : decode cX5_putNear 18 = .ok (.aload_n 0, 1) := by decide +kernel
theorem dX5_putNear_19 : decode cX5_putNear 19 = .ok (.getfield 30, 3) := by decide +kernel
theorem dX5_putNear_22 : decode cX5_putNear 22 = .ok (.iload_n 1, 1) := by decide +kernel
theorem dX5_putNear_23 : decode cX5_putNear 23 = .ok (.iaload, 1) := by decide +kernel
theorem dX5_putNear_24 : decode cX5_putNear 24 = .ok (.invokestatic 72, 3) := by decide +kernel
theorem dX5_putNear_27 : decode cX5_putNear 27 = .ok (.aload_n 0, 1) := by decide +kernel
theorem dX5_putNear_28 : decode cX5_putNear 28 = .ok (.getfield 33, 3) := by decide +kernel
theorem dX5_putNear_31 : decode cX5_putNear 31 = .ok (.bipush 8, 2) := by decide +kernel
theorem dX5_putNear_33 : decode cX5_putNear 33 = .ok (.iload_n 1, 1) := by decide +kernel
theorem dX5_putNear_34 : decode cX5_putNear 34 = .ok (.imul, 1) := by decide +kernel
theorem dX5_putNear_35 : decode cX5_putNear 35 = .ok (.iload_n 2, 1) := by decide +kernel
theorem dX5_putNear_36 : decode cX5_putNear 36 = .ok (.iastore, 1) := by decide +kernel
theorem dX5_putNear_37 : decode cX5_putNear 37 = .ok (.aload_n 0, 1) := by decide +kernel
theorem dX5_putNear_38 : decode cX5_putNear 38 = .ok (.getfield 30, 3) := by decide +kernel
theorem dX5_putNear_41 : decode cX5_putNear 41 = .ok (.iload_n 1, 1) := by decide +kernel
theorem dX5_putNear_42 : decode cX5_putNear 42 = .ok (.dup2, 1) := by decide +kernel
theorem dX5_putNear_43 : decode cX5_putNear 43 = .ok (.iaload, 1) := by decide +kernel
theorem dX5_putNear_44 : decode cX5_putNear 44 = .ok (.iconst 1, 1) := by decide +kernel
theorem dX5_putNear_45 : decode cX5_putNear 45 = .ok (.iadd, 1) := by decide +kernel
theorem dX5_putNear_46 : decode cX5_putNear 46 = .ok (.iastore, 1) := by decide +kernel
theorem dX5_putNear_47 : decode cX5_putNear 47 = .ok (.return_, 1) := by decide +kernel
theorem dX5_takeNear_0 : decode cX5_takeNear 0 = .ok (.aload_n 0, 1) := by decide +kernel
theorem dX5_takeNear_1 : decode cX5_takeNear 1 = .ok (.getfield 33, 3) := by decide +kernel
theorem dX5_takeNear_4 : decode cX5_takeNear 4 = .ok (.bipush 8, 2) := by decide +kernel
theorem dX5_takeNear_6 : decode cX5_takeNear 6 = .ok (.iload_n 1, 1) := by decide +kernel
theorem dX5_takeNear_7 : decode cX5_takeNear 7 = .ok (.imul, 1) := by decide +kernel
theorem dX5_takeNear_8 : decode cX5_takeNear 8 = .ok (.iaload, 1) := by decide +kernel
theorem dX5_takeNear_9 : decode cX5_takeNear 9 = .ok (.istore_n 2, 1) := by decide +kernel
theorem dX5_takeNear_10 : decode cX5_takeNear 10 = .ok (.aload_n 0, 1) := by decide +kernel
theorem dX5_takeNear_11 : decode cX5_takeNear 11 = .ok (.getfield 30, 3) := by decide +kernel
theorem dX5_takeNear_14 : decode cX5_takeNear 14 = .ok (.iload_n 1, 1) := by decide +kernel
theorem dX5_takeNear_15 : decode cX5_takeNear 15 = .ok (.dup2, 1) := by decide +kernel
theorem dX5_takeNear_16 : decode cX5_takeNear 16 = .ok (.iaload, 1) := by decide +kernel
theorem dX5_takeNear_17 : decode cX5_takeNear 17 = .ok (.iconst 1, 1) := by decide +kernel
theorem dX5_takeNear_18 : decode cX5_takeNear 18 = .ok (.isub, 1) := by decide +kernel
theorem dX5_takeNear_19 : decode cX5_takeNear 19 = .ok (.iastore, 1) := by decide +kernel
theorem dX5_takeNear_20 : decode cX5_takeNear 20 = .ok (.aload_n 0, 1) := by decide +kernel
theorem dX5_takeNear_21 : decode cX5_takeNear 21 = .ok (.getfield 33, 3) := by decide +kernel
theorem dX5_takeNear_24 : decode cX5_takeNear 24 = .ok (.bipush 8, 2) := by decide +kernel
theorem dX5_takeNear_26 : decode cX5_takeNear 26 = .ok (.iload_n 1, 1) := by decide +kernel
theorem dX5_takeNear_27 : decode cX5_takeNear 27 = .ok (.imul, 1) := by decide +kernel
theorem dX5_takeNear_28 : decode cX5_takeNear 28 = .ok (.iconst 1, 1) := by decide +kernel
theorem dX5_takeNear_29 : decode cX5_takeNear 29 = .ok (.iadd, 1) := by decide +kernel
theorem dX5_takeNear_30 : decode cX5_takeNear 30 = .ok (.aload_n 0, 1) := by decide +kernel
theorem dX5_takeNear_31 : decode cX5_takeNear 31 = .ok (.getfield 33, 3) := by decide +kernel
theorem dX5_takeNear_34 : decode cX5_takeNear 34 = .ok (.bipush 8, 2) := by decide +kernel
theorem dX5_takeNear_36 : decode cX5_takeNear 36 = .ok (.iload_n 1, 1) := by decide +kernel
theorem dX5_takeNear_37 : decode cX5_takeNear 37 = .ok (.imul, 1) := by decide +kernel
theorem dX5_takeNear_38 : decode cX5_takeNear 38 = .ok (.aload_n 0, 1) := by decide +kernel
theorem dX5_takeNear_39 : decode cX5_takeNear 39 = .ok (.getfield 30, 3) := by decide +kernel
theorem dX5_takeNear_42 : decode cX5_takeNear 42 = .ok (.iload_n 1, 1) := by decide +kernel
theorem dX5_takeNear_43 : decode cX5_takeNear 43 = .ok (.iaload, 1) := by decide +kernel
theorem dX5_takeNear_44 : decode cX5_takeNear 44 = .ok (.invokestatic 72, 3) := by decide +kernel
theorem dX5_takeNear_47 : decode cX5_takeNear 47 = .ok (.iload_n 2, 1) := by decide +kernel
theorem dX5_takeNear_48 : decode cX5_takeNear 48 = .ok (.ireturn, 1) := by decide +kernel
theorem dX5_hold_0 : decode cX5_hold 0 = .ok (.aload_n 0, 1) := by decide +kernel
theorem dX5_hold_1 : decode cX5_hold 1 = .ok (.getfield 9, 3) := by decide +kernel
theorem dX5_hold_4 : decode cX5_hold 4 = .ok (.iload_n 1, 1) := by decide +kernel
theorem dX5_hold_5 : decode cX5_hold 5 = .ok (.iconst 1, 1) := by decide +kernel
theorem dX5_hold_6 : decode cX5_hold 6 = .ok (.iastore, 1) := by decide +kernel
theorem dX5_hold_7 : decode cX5_hold 7 = .ok (.aload_n 0, 1) := by decide +kernel
theorem dX5_hold_8 : decode cX5_hold 8 = .ok (.getfield 15, 3) := by decide +kernel
theorem dX5_hold_11 : decode cX5_hold 11 = .ok (.iload_n 1, 1) := by decide +kernel
theorem dX5_hold_12 : decode cX5_hold 12 = .ok (.iload_n 2, 1) := by decide +kernel
theorem dX5_hold_13 : decode cX5_hold 13 = .ok (.iastore, 1) := by decide +kernel
theorem dX5_hold_14 : decode cX5_hold 14 = .ok (.return_, 1) := by decide +kernel
theorem dX5_finish_0 : decode cX5_finish 0 = .ok (.aload_n 0, 1) := by decide +kernel
theorem dX5_finish_1 : decode cX5_finish 1 = .ok (.getfield 69, 3) := by decide +kernel
theorem dX5_finish_4 : decode cX5_finish 4 = .ok (.iload_n 2, 1) := by decide +kernel
theorem dX5_finish_5 : decode cX5_finish 5 = .ok (.iconst 1, 1) := by decide +kernel
theorem dX5_finish_6 : decode cX5_finish 6 = .ok (.iastore, 1) := by decide +kernel
theorem dX5_finish_7 : decode cX5_finish 7 = .ok (.aload_n 0, 1) := by decide +kernel
theorem dX5_finish_8 : decode cX5_finish 8 = .ok (.getfield 9, 3) := by decide +kernel
theorem dX5_finish_11 : decode cX5_finish 11 = .ok (.iload_n 1, 1) := by decide +kernel
theorem dX5_finish_12 : decode cX5_finish 12 = .ok (.iconst 0, 1) := by decide +kernel
theorem dX5_finish_13 : decode cX5_finish 13 = .ok (.iastore, 1) := by decide +kernel
theorem dX5_finish_14 : decode cX5_finish 14 = .ok (.aload_n 0, 1) := by decide +kernel
theorem dX5_finish_15 : decode cX5_finish 15 = .ok (.getfield 63, 3) := by decide +kernel
theorem dX5_finish_18 : decode cX5_finish 18 = .ok (.iload_n 2, 1) := by decide +kernel
theorem dX5_finish_19 : decode cX5_finish 19 = .ok (.iaload, 1) := by decide +kernel
theorem dX5_finish_20 : decode cX5_finish 20 = .ok (.iconst (-1), 1) := by decide +kernel
theorem dX5_finish_21 : decode cX5_finish 21 = .ok (.if_icmp .ne 33, 3) := by decide +kernel
theorem dX5_finish_24 : decode cX5_finish 24 = .ok (.aload_n 0, 1) := by decide +kernel
theorem dX5_finish_25 : decode cX5_finish 25 = .ok (.getfield 36, 3) := by decide +kernel
theorem dX5_finish_28 : decode cX5_finish 28 = .ok (.aload_n 0, 1) := by decide +kernel
theorem dX5_finish_29 : decode cX5_finish 29 = .ok (.getfield 60, 3) := by decide +kernel
theorem dX5_finish_32 : decode cX5_finish 32 = .ok (.iload_n 2, 1) := by decide +kernel
theorem dX5_finish_33 : decode cX5_finish 33 = .ok (.iaload, 1) := by decide +kernel
theorem dX5_finish_34 : decode cX5_finish 34 = .ok (.iconst 2, 1) := by decide +kernel
theorem dX5_finish_35 : decode cX5_finish 35 = .ok (.iastore, 1) := by decide +kernel
theorem dX5_finish_36 : decode cX5_finish 36 = .ok (.aload_n 0, 1) := by decide +kernel
theorem dX5_finish_37 : decode cX5_finish 37 = .ok (.getfield 42, 3) := by decide +kernel
theorem dX5_finish_40 : decode cX5_finish 40 = .ok (.aload_n 0, 1) := by decide +kernel
theorem dX5_finish_41 : decode cX5_finish 41 = .ok (.getfield 60, 3) := by decide +kernel
theorem dX5_finish_44 : decode cX5_finish 44 = .ok (.iload_n 2, 1) := by decide +kernel
theorem dX5_finish_45 : decode cX5_finish 45 = .ok (.iaload, 1) := by decide +kernel
theorem dX5_finish_46 : decode cX5_finish 46 = .ok (.aload_n 0, 1) := by decide +kernel
theorem dX5_finish_47 : decode cX5_finish 47 = .ok (.getfield 78, 3) := by decide +kernel
theorem dX5_finish_50 : decode cX5_finish 50 = .ok (.iastore, 1) := by decide +kernel
theorem dX5_finish_51 : decode cX5_finish 51 = .ok (.goto 37, 3) := by decide +kernel
theorem dX5_finish_54 : decode cX5_finish 54 = .ok (.aload_n 0, 1) := by decide +kernel
theorem dX5_finish_55 : decode cX5_finish 55 = .ok (.getfield 69, 3) := by decide +kernel
theorem dX5_finish_58 : decode cX5_finish 58 = .ok (.aload_n 0, 1) := by decide +kernel
theorem dX5_finish_59 : decode cX5_finish 59 = .ok (.getfield 66, 3) := by decide +kernel
theorem dX5_finish_62 : decode cX5_finish 62 = .ok (.iload_n 2, 1) := by decide +kernel
theorem dX5_finish_63 : decode cX5_finish 63 = .ok (.iaload, 1) := by decide +kernel
theorem dX5_finish_64 : decode cX5_finish 64 = .ok (.iaload, 1) := by decide +kernel
theorem dX5_finish_65 : decode cX5_finish 65 = .ok (.iconst 1, 1) := by decide +kernel
theorem dX5_finish_66 : decode cX5_finish 66 = .ok (.if_icmp .ne 22, 3) := by decide +kernel
theorem dX5_finish_69 : decode cX5_finish 69 = .ok (.aload_n 0, 1) := by decide +kernel
theorem dX5_finish_70 : decode cX5_finish 70 = .ok (.getfield 9, 3) := by decide +kernel
theorem dX5_finish_73 : decode cX5_finish 73 = .ok (.iload_n 1, 1) := by decide +kernel
theorem dX5_finish_74 : decode cX5_finish 74 = .ok (.iconst 2, 1) := by decide +kernel
theorem dX5_finish_75 : decode cX5_finish 75 = .ok (.iastore, 1) := by decide +kernel
theorem dX5_finish_76 : decode cX5_finish 76 = .ok (.aload_n 0, 1) := by decide +kernel
theorem dX5_finish_77 : decode cX5_finish 77 = .ok (.getfield 15, 3) := by decide +kernel
theorem dX5_finish_80 : decode cX5_finish 80 = .ok (.iload_n 1, 1) := by decide +kernel
theorem dX5_finish_81 : decode cX5_finish 81 = .ok (.aload_n 0, 1) := by decide +kernel
theorem dX5_finish_82 : decode cX5_finish 82 = .ok (.getfield 63, 3) := by decide +kernel
theorem dX5_finish_85 : decode cX5_finish 85 = .ok (.iload_n 2, 1) := by decide +kernel
theorem dX5_finish_86 : decode cX5_finish 86 = .ok (.iaload, 1) := by decide +kernel
theorem dX5_finish_87 : decode cX5_finish 87 = .ok (.iastore, 1) := by decide +kernel
theorem dX5_finish_88 : decode cX5_finish 88 = .ok (.return_, 1) := by decide +kernel
theorem dX5_forkIt_0 : decode cX5_forkIt 0 = .ok (.aload_n 0, 1) := by decide +kernel
theorem dX5_forkIt_1 : decode cX5_forkIt 1 = .ok (.aload_n 0, 1) := by decide +kernel
theorem dX5_forkIt_2 : decode cX5_forkIt 2 = .ok (.getfield 54, 3) := by decide +kernel
theorem dX5_forkIt_5 : decode cX5_forkIt 5 = .ok (.iload_n 2, 1) := by decide +kernel
theorem dX5_forkIt_6 : decode cX5_forkIt 6 = .ok (.iaload, 1) := by decide +kernel
theorem dX5_forkIt_7 : decode cX5_forkIt 7 = .ok (.iconst 2, 1) := by decide +kernel
theorem dX5_forkIt_8 : decode cX5_forkIt 8 = .ok (.idiv, 1) := by decide +kernel
theorem dX5_forkIt_9 : decode cX5_forkIt 9 = .ok (.aload_n 0, 1) := by decide +kernel
theorem dX5_forkIt_10 : decode cX5_forkIt 10 = .ok (.getfield 60, 3) := by decide +kernel
theorem dX5_forkIt_13 : decode cX5_forkIt 13 = .ok (.iload_n 2, 1) := by decide +kernel
theorem dX5_forkIt_14 : decode cX5_forkIt 14 = .ok (.iaload, 1) := by decide +kernel
theorem dX5_forkIt_15 : decode cX5_forkIt 15 = .ok (.iload_n 2, 1) := by decide +kernel
theorem dX5_forkIt_16 : decode cX5_forkIt 16 = .ok (.invokevirtual 101, 3) := by decide +kernel
theorem dX5_forkIt_19 : decode cX5_forkIt 19 = .ok (.istore_n 3, 1) := by decide +kernel
theorem dX5_forkIt_20 : decode cX5_forkIt 20 = .ok (.aload_n 0, 1) := by decide +kernel
theorem dX5_forkIt_21 : decode cX5_forkIt 21 = .ok (.aload_n 0, 1) := by decide +kernel
theorem dX5_forkIt_22 : decode cX5_forkIt 22 = .ok (.getfield 54, 3) := by decide +kernel
theorem dX5_forkIt_25 : decode cX5_forkIt 25 = .ok (.iload_n 2, 1) := by decide +kernel
theorem dX5_forkIt_26 : decode cX5_forkIt 26 = .ok (.iaload, 1) := by decide +kernel
theorem dX5_forkIt_27 : decode cX5_forkIt 27 = .ok (.aload_n 0, 1) := by decide +kernel
theorem dX5_forkIt_28 : decode cX5_forkIt 28 = .ok (.getfield 54, 3) := by decide +kernel
theorem dX5_forkIt_31 : decode cX5_forkIt 31 = .ok (.iload_n 2, 1) := by decide +kernel
theorem dX5_forkIt_32 : decode cX5_forkIt 32 = .ok (.iaload, 1) := by decide +kernel
theorem dX5_forkIt_33 : decode cX5_forkIt 33 = .ok (.iconst 2, 1) := by decide +kernel
theorem dX5_forkIt_34 : decode cX5_forkIt 34 = .ok (.idiv, 1) := by decide +kernel
theorem dX5_forkIt_35 : decode cX5_forkIt 35 = .ok (.isub, 1) := by decide +kernel
theorem dX5_forkIt_36 : decode cX5_forkIt 36 = .ok (.aload_n 0, 1) := by decide +kernel
theorem dX5_forkIt_37 : decode cX5_forkIt 37 = .ok (.getfield 60, 3) := by decide +kernel
theorem dX5_forkIt_40 : decode cX5_forkIt 40 = .ok (.iload_n 2, 1) := by decide +kernel
theorem dX5_forkIt_41 : decode cX5_forkIt 41 = .ok (.iaload, 1) := by decide +kernel
theorem dX5_forkIt_42 : decode cX5_forkIt 42 = .ok (.iload_n 2, 1) := by decide +kernel
theorem dX5_forkIt_43 : decode cX5_forkIt 43 = .ok (.invokevirtual 101, 3) := by decide +kernel
theorem dX5_forkIt_46 : decode cX5_forkIt 46 = .ok (.istore 4, 2) := by decide +kernel
theorem dX5_forkIt_48 : decode cX5_forkIt 48 = .ok (.aload_n 0, 1) := by decide +kernel
theorem dX5_forkIt_49 : decode cX5_forkIt 49 = .ok (.getfield 66, 3) := by decide +kernel
theorem dX5_forkIt_52 : decode cX5_forkIt 52 = .ok (.iload_n 3, 1) := by decide +kernel
theorem dX5_forkIt_53 : decode cX5_forkIt 53 = .ok (.iload 4, 2) := by decide +kernel
theorem dX5_forkIt_55 : decode cX5_forkIt 55 = .ok (.iastore, 1) := by decide +kernel
theorem dX5_forkIt_56 : decode cX5_forkIt 56 = .ok (.aload_n 0, 1) := by decide +kernel
theorem dX5_forkIt_57 : decode cX5_forkIt 57 = .ok (.getfield 66, 3) := by decide +kernel
theorem dX5_forkIt_60 : decode cX5_forkIt 60 = .ok (.iload 4, 2) := by decide +kernel
theorem dX5_forkIt_62 : decode cX5_forkIt 62 = .ok (.iload_n 3, 1) := by decide +kernel
theorem dX5_forkIt_63 : decode cX5_forkIt 63 = .ok (.iastore, 1) := by decide +kernel
theorem dX5_forkIt_64 : decode cX5_forkIt 64 = .ok (.aload_n 0, 1) := by decide +kernel
theorem dX5_forkIt_65 : decode cX5_forkIt 65 = .ok (.iload_n 1, 1) := by decide +kernel
theorem dX5_forkIt_66 : decode cX5_forkIt 66 = .ok (.iload 4, 2) := by decide +kernel
theorem dX5_forkIt_68 : decode cX5_forkIt 68 = .ok (.invokevirtual 105, 3) := by decide +kernel
theorem dX5_forkIt_71 : decode cX5_forkIt 71 = .ok (.aload_n 0, 1) := by decide +kernel
theorem dX5_forkIt_72 : decode cX5_forkIt 72 = .ok (.getfield 15, 3) := by decide +kernel
theorem dX5_forkIt_75 : decode cX5_forkIt 75 = .ok (.iload_n 1, 1) := by decide +kernel
theorem dX5_forkIt_76 : decode cX5_forkIt 76 = .ok (.iload_n 3, 1) := by decide +kernel
theorem dX5_forkIt_77 : decode cX5_forkIt 77 = .ok (.iastore, 1) := by decide +kernel
theorem dX5_forkIt_78 : decode cX5_forkIt 78 = .ok (.aload_n 0, 1) := by decide +kernel
theorem dX5_forkIt_79 : decode cX5_forkIt 79 = .ok (.getfield 45, 3) := by decide +kernel
theorem dX5_forkIt_82 : decode cX5_forkIt 82 = .ok (.aload_n 0, 1) := by decide +kernel
theorem dX5_forkIt_83 : decode cX5_forkIt 83 = .ok (.getfield 60, 3) := by decide +kernel
theorem dX5_forkIt_86 : decode cX5_forkIt 86 = .ok (.iload_n 2, 1) := by decide +kernel
theorem dX5_forkIt_87 : decode cX5_forkIt 87 = .ok (.iaload, 1) := by decide +kernel
theorem dX5_forkIt_88 : decode cX5_forkIt 88 = .ok (.dup2, 1) := by decide +kernel
theorem dX5_forkIt_89 : decode cX5_forkIt 89 = .ok (.iaload, 1) := by decide +kernel
theorem dX5_forkIt_90 : decode cX5_forkIt 90 = .ok (.iconst 2, 1) := by decide +kernel
theorem dX5_forkIt_91 : decode cX5_forkIt 91 = .ok (.iadd, 1) := by decide +kernel
theorem dX5_forkIt_92 : decode cX5_forkIt 92 = .ok (.iastore, 1) := by decide +kernel
theorem dX5_forkIt_93 : decode cX5_forkIt 93 = .ok (.aload_n 0, 1) := by decide +kernel
theorem dX5_forkIt_94 : decode cX5_forkIt 94 = .ok (.dup, 1) := by decide +kernel
theorem dX5_forkIt_95 : decode cX5_forkIt 95 = .ok (.getfield 85, 3) := by decide +kernel
theorem dX5_forkIt_98 : decode cX5_forkIt 98 = .ok (.iconst 1, 1) := by decide +kernel
theorem dX5_forkIt_99 : decode cX5_forkIt 99 = .ok (.iadd, 1) := by decide +kernel
theorem dX5_forkIt_100 : decode cX5_forkIt 100 = .ok (.putfield 85, 3) := by decide +kernel
theorem dX5_forkIt_103 : decode cX5_forkIt 103 = .ok (.iconst 0, 1) := by decide +kernel
theorem dX5_forkIt_104 : decode cX5_forkIt 104 = .ok (.istore 5, 2) := by decide +kernel
theorem dX5_forkIt_106 : decode cX5_forkIt 106 = .ok (.iload 5, 2) := by decide +kernel
theorem dX5_forkIt_108 : decode cX5_forkIt 108 = .ok (.bipush 6, 2) := by decide +kernel
theorem dX5_forkIt_110 : decode cX5_forkIt 110 = .ok (.if_icmp .ge 34, 3) := by decide +kernel
theorem dX5_forkIt_113 : decode cX5_forkIt 113 = .ok (.aload_n 0, 1) := by decide +kernel
theorem dX5_forkIt_114 : decode cX5_forkIt 114 = .ok (.getfield 9, 3) := by decide +kernel
theorem dX5_forkIt_117 : decode cX5_forkIt 117 = .ok (.iload 5, 2) := by decide +kernel
theorem dX5_forkIt_119 : decode cX5_forkIt 119 = .ok (.iaload, 1) := by decide +kernel
theorem dX5_forkIt_120 : decode cX5_forkIt 120 = .ok (.iconst 3, 1) := by decide +kernel
theorem dX5_forkIt_121 : decode cX5_forkIt 121 = .ok (.if_icmp .eq 6, 3) := by decide +kernel
theorem dX5_forkIt_124 : decode cX5_forkIt 124 = .ok (.goto 14, 3) := by decide +kernel
theorem dX5_forkIt_127 : decode cX5_forkIt 127 = .ok (.aload_n 0, 1) := by decide +kernel
theorem dX5_forkIt_128 : decode cX5_forkIt 128 = .ok (.getfield 9, 3) := by decide +kernel
theorem dX5_forkIt_131 : decode cX5_forkIt 131 = .ok (.iload 5, 2) := by decide +kernel
theorem dX5_forkIt_133 : decode cX5_forkIt 133 = .ok (.iconst 0, 1) := by decide +kernel
theorem dX5_forkIt_134 : decode cX5_forkIt 134 = .ok (.iastore, 1) := by decide +kernel
theorem dX5_forkIt_135 : decode cX5_forkIt 135 = .ok (.goto 9, 3) := by decide +kernel
theorem dX5_forkIt_138 : decode cX5_forkIt 138 = .ok (.iinc 5 1, 3) := by decide +kernel
theorem dX5_forkIt_141 : decode cX5_forkIt 141 = .ok (.goto (-35), 3) := by decide +kernel
theorem dX5_forkIt_144 : decode cX5_forkIt 144 = .ok (.return_, 1) := by decide +kernel
theorem dX5_pitch_0 : decode cX5_pitch 0 = .ok (.iload_n 3, 1) := by decide +kernel
theorem dX5_pitch_1 : decode cX5_pitch 1 = .ok (.aload_n 0, 1) := by decide +kernel
theorem dX5_pitch_2 : decode cX5_pitch 2 = .ok (.getfield 57, 3) := by decide +kernel
theorem dX5_pitch_5 : decode cX5_pitch 5 = .ok (.iload_n 2, 1) := by decide +kernel
theorem dX5_pitch_6 : decode cX5_pitch 6 = .ok (.iaload, 1) := by decide +kernel
theorem dX5_pitch_7 : decode cX5_pitch 7 = .ok (.invokestatic 109, 3) := by decide +kernel
theorem dX5_pitch_10 : decode cX5_pitch 10 = .ok (.istore 4, 2) := by decide +kernel
theorem dX5_pitch_12 : decode cX5_pitch 12 = .ok (.aload_n 0, 1) := by decide +kernel
theorem dX5_pitch_13 : decode cX5_pitch 13 = .ok (.getfield 57, 3) := by decide +kernel
theorem dX5_pitch_16 : decode cX5_pitch 16 = .ok (.iload_n 2, 1) := by decide +kernel
theorem dX5_pitch_17 : decode cX5_pitch 17 = .ok (.dup2, 1) := by decide +kernel
theorem dX5_pitch_18 : decode cX5_pitch 18 = .ok (.iaload, 1) := by decide +kernel
theorem dX5_pitch_19 : decode cX5_pitch 19 = .ok (.iload 4, 2) := by decide +kernel
theorem dX5_pitch_21 : decode cX5_pitch 21 = .ok (.isub, 1) := by decide +kernel
theorem dX5_pitch_22 : decode cX5_pitch 22 = .ok (.iastore, 1) := by decide +kernel
theorem dX5_pitch_23 : decode cX5_pitch 23 = .ok (.aload_n 0, 1) := by decide +kernel
theorem dX5_pitch_24 : decode cX5_pitch 24 = .ok (.getfield 51, 3) := by decide +kernel
theorem dX5_pitch_27 : decode cX5_pitch 27 = .ok (.aload_n 0, 1) := by decide +kernel
theorem dX5_pitch_28 : decode cX5_pitch 28 = .ok (.getfield 60, 3) := by decide +kernel
theorem dX5_pitch_31 : decode cX5_pitch 31 = .ok (.iload_n 2, 1) := by decide +kernel
theorem dX5_pitch_32 : decode cX5_pitch 32 = .ok (.iaload, 1) := by decide +kernel
theorem dX5_pitch_33 : decode cX5_pitch 33 = .ok (.dup2, 1) := by decide +kernel
theorem dX5_pitch_34 : decode cX5_pitch 34 = .ok (.iaload, 1) := by decide +kernel
theorem dX5_pitch_35 : decode cX5_pitch 35 = .ok (.iload 4, 2) := by decide +kernel
theorem dX5_pitch_37 : decode cX5_pitch 37 = .ok (.iadd, 1) := by decide +kernel
theorem dX5_pitch_38 : decode cX5_pitch 38 = .ok (.iastore, 1) := by decide +kernel
theorem dX5_pitch_39 : decode cX5_pitch 39 = .ok (.aload_n 0, 1) := by decide +kernel
theorem dX5_pitch_40 : decode cX5_pitch 40 = .ok (.dup, 1) := by decide +kernel
theorem dX5_pitch_41 : decode cX5_pitch 41 = .ok (.getfield 91, 3) := by decide +kernel
theorem dX5_pitch_44 : decode cX5_pitch 44 = .ok (.iload 4, 2) := by decide +kernel
theorem dX5_pitch_46 : decode cX5_pitch 46 = .ok (.iadd, 1) := by decide +kernel
theorem dX5_pitch_47 : decode cX5_pitch 47 = .ok (.putfield 91, 3) := by decide +kernel
theorem dX5_pitch_50 : decode cX5_pitch 50 = .ok (.aload_n 0, 1) := by decide +kernel
theorem dX5_pitch_51 : decode cX5_pitch 51 = .ok (.getfield 57, 3) := by decide +kernel
theorem dX5_pitch_54 : decode cX5_pitch 54 = .ok (.iload_n 2, 1) := by decide +kernel
theorem dX5_pitch_55 : decode cX5_pitch 55 = .ok (.iaload, 1) := by decide +kernel
theorem dX5_pitch_56 : decode cX5_pitch 56 = .ok (.ifCond .ne 9, 3) := by decide +kernel
theorem dX5_pitch_59 : decode cX5_pitch 59 = .ok (.aload_n 0, 1) := by decide +kernel
theorem dX5_pitch_60 : decode cX5_pitch 60 = .ok (.iload_n 1, 1) := by decide +kernel
theorem dX5_pitch_61 : decode cX5_pitch 61 = .ok (.iload_n 2, 1) := by decide +kernel
theorem dX5_pitch_62 : decode cX5_pitch 62 = .ok (.invokevirtual 115, 3) := by decide +kernel
theorem dX5_pitch_65 : decode cX5_pitch 65 = .ok (.return_, 1) := by decide +kernel
theorem dX5_rest_0 : decode cX5_rest 0 = .ok (.aload_n 0, 1) := by decide +kernel
theorem dX5_rest_1 : decode cX5_rest 1 = .ok (.getfield 27, 3) := by decide +kernel
theorem dX5_rest_4 : decode cX5_rest 4 = .ok (.iload_n 1, 1) := by decide +kernel
theorem dX5_rest_5 : decode cX5_rest 5 = .ok (.dup2, 1) := by decide +kernel
theorem dX5_rest_6 : decode cX5_rest 6 = .ok (.iaload, 1) := by decide +kernel
theorem dX5_rest_7 : decode cX5_rest 7 = .ok (.iconst 1, 1) := by decide +kernel
theorem dX5_rest_8 : decode cX5_rest 8 = .ok (.iadd, 1) := by decide +kernel
theorem dX5_rest_9 : decode cX5_rest 9 = .ok (.iastore, 1) := by decide +kernel
theorem dX5_rest_10 : decode cX5_rest 10 = .ok (.aload_n 0, 1) := by decide +kernel
theorem dX5_rest_11 : decode cX5_rest 11 = .ok (.getfield 18, 3) := by decide +kernel
theorem dX5_rest_14 : decode cX5_rest 14 = .ok (.iload_n 1, 1) := by decide +kernel
theorem dX5_rest_15 : decode cX5_rest 15 = .ok (.dup2, 1) := by decide +kernel
theorem dX5_rest_16 : decode cX5_rest 16 = .ok (.iaload, 1) := by decide +kernel
theorem dX5_rest_17 : decode cX5_rest 17 = .ok (.iconst 1, 1) := by decide +kernel
theorem dX5_rest_18 : decode cX5_rest 18 = .ok (.iadd, 1) := by decide +kernel
theorem dX5_rest_19 : decode cX5_rest 19 = .ok (.iastore, 1) := by decide +kernel
theorem dX5_rest_20 : decode cX5_rest 20 = .ok (.aload_n 0, 1) := by decide +kernel
theorem dX5_rest_21 : decode cX5_rest 21 = .ok (.getfield 18, 3) := by decide +kernel
theorem dX5_rest_24 : decode cX5_rest 24 = .ok (.iload_n 1, 1) := by decide +kernel
theorem dX5_rest_25 : decode cX5_rest 25 = .ok (.iaload, 1) := by decide +kernel
theorem dX5_rest_26 : decode cX5_rest 26 = .ok (.iconst 3, 1) := by decide +kernel
theorem dX5_rest_27 : decode cX5_rest 27 = .ok (.if_icmp .ge 4, 3) := by decide +kernel
theorem dX5_rest_30 : decode cX5_rest 30 = .ok (.return_, 1) := by decide +kernel
theorem dX5_rest_31 : decode cX5_rest 31 = .ok (.aload_n 0, 1) := by decide +kernel
theorem dX5_rest_32 : decode cX5_rest 32 = .ok (.getfield 18, 3) := by decide +kernel
theorem dX5_rest_35 : decode cX5_rest 35 = .ok (.iload_n 1, 1) := by decide +kernel
theorem dX5_rest_36 : decode cX5_rest 36 = .ok (.iconst 0, 1) := by decide +kernel
theorem dX5_rest_37 : decode cX5_rest 37 = .ok (.iastore, 1) := by decide +kernel
theorem dX5_rest_38 : decode cX5_rest 38 = .ok (.aload_n 0, 1) := by decide +kernel
theorem dX5_rest_39 : decode cX5_rest 39 = .ok (.getfield 9, 3) := by decide +kernel
theorem dX5_rest_42 : decode cX5_rest 42 = .ok (.iload_n 1, 1) := by decide +kernel
theorem dX5_rest_43 : decode cX5_rest 43 = .ok (.iconst 3, 1) := by decide +kernel
theorem dX5_rest_44 : decode cX5_rest 44 = .ok (.iastore, 1) := by decide +kernel
theorem dX5_rest_45 : decode cX5_rest 45 = .ok (.return_, 1) := by decide +kernel
theorem dX5_steal_0 : decode cX5_steal 0 = .ok (.aload_n 0, 1) := by decide +kernel
theorem dX5_steal_1 : decode cX5_steal 1 = .ok (.iload_n 2, 1) := by decide +kernel
theorem dX5_steal_2 : decode cX5_steal 2 = .ok (.invokevirtual 118, 3) := by decide +kernel
theorem dX5_steal_5 : decode cX5_steal 5 = .ok (.istore_n 3, 1) := by decide +kernel
theorem dX5_steal_6 : decode cX5_steal 6 = .ok (.aload_n 0, 1) := by decide +kernel
theorem dX5_steal_7 : decode cX5_steal 7 = .ok (.getfield 30, 3) := by decide +kernel
theorem dX5_steal_10 : decode cX5_steal 10 = .ok (.iload_n 2, 1) := by decide +kernel
theorem dX5_steal_11 : decode cX5_steal 11 = .ok (.dup2, 1) := by decide +kernel
theorem dX5_steal_12 : decode cX5_steal 12 = .ok (.iaload, 1) := by decide +kernel
theorem dX5_steal_13 : decode cX5_steal 13 = .ok (.iconst 1, 1) := by decide +kernel
theorem dX5_steal_14 : decode cX5_steal 14 = .ok (.isub, 1) := by decide +kernel
theorem dX5_steal_15 : decode cX5_steal 15 = .ok (.iastore, 1) := by decide +kernel
theorem dX5_steal_16 : decode cX5_steal 16 = .ok (.aload_n 0, 1) := by decide +kernel
theorem dX5_steal_17 : decode cX5_steal 17 = .ok (.iload_n 1, 1) := by decide +kernel
theorem dX5_steal_18 : decode cX5_steal 18 = .ok (.iload_n 3, 1) := by decide +kernel
theorem dX5_steal_19 : decode cX5_steal 19 = .ok (.invokevirtual 122, 3) := by decide +kernel
theorem dX5_steal_22 : decode cX5_steal 22 = .ok (.aload_n 0, 1) := by decide +kernel
theorem dX5_steal_23 : decode cX5_steal 23 = .ok (.getfield 21, 3) := by decide +kernel
theorem dX5_steal_26 : decode cX5_steal 26 = .ok (.iload_n 1, 1) := by decide +kernel
theorem dX5_steal_27 : decode cX5_steal 27 = .ok (.dup2, 1) := by decide +kernel
theorem dX5_steal_28 : decode cX5_steal 28 = .ok (.iaload, 1) := by decide +kernel
theorem dX5_steal_29 : decode cX5_steal 29 = .ok (.iconst 1, 1) := by decide +kernel
theorem dX5_steal_30 : decode cX5_steal 30 = .ok (.iadd, 1) := by decide +kernel
theorem dX5_steal_31 : decode cX5_steal 31 = .ok (.iastore, 1) := by decide +kernel
theorem dX5_steal_32 : decode cX5_steal 32 = .ok (.aload_n 0, 1) := by decide +kernel
theorem dX5_steal_33 : decode cX5_steal 33 = .ok (.getfield 24, 3) := by decide +kernel
theorem dX5_steal_36 : decode cX5_steal 36 = .ok (.iload_n 2, 1) := by decide +kernel
theorem dX5_steal_37 : decode cX5_steal 37 = .ok (.dup2, 1) := by decide +kernel
theorem dX5_steal_38 : decode cX5_steal 38 = .ok (.iaload, 1) := by decide +kernel
theorem dX5_steal_39 : decode cX5_steal 39 = .ok (.iconst 1, 1) := by decide +kernel
theorem dX5_steal_40 : decode cX5_steal 40 = .ok (.iadd, 1) := by decide +kernel
theorem dX5_steal_41 : decode cX5_steal 41 = .ok (.iastore, 1) := by decide +kernel
theorem dX5_steal_42 : decode cX5_steal 42 = .ok (.aload_n 0, 1) := by decide +kernel
theorem dX5_steal_43 : decode cX5_steal 43 = .ok (.getfield 48, 3) := by decide +kernel
theorem dX5_steal_46 : decode cX5_steal 46 = .ok (.aload_n 0, 1) := by decide +kernel
theorem dX5_steal_47 : decode cX5_steal 47 = .ok (.getfield 60, 3) := by decide +kernel
theorem dX5_steal_50 : decode cX5_steal 50 = .ok (.iload_n 3, 1) := by decide +kernel
theorem dX5_steal_51 : decode cX5_steal 51 = .ok (.iaload, 1) := by decide +kernel
theorem dX5_steal_52 : decode cX5_steal 52 = .ok (.dup2, 1) := by decide +kernel
theorem dX5_steal_53 : decode cX5_steal 53 = .ok (.iaload, 1) := by decide +kernel
theorem dX5_steal_54 : decode cX5_steal 54 = .ok (.iconst 1, 1) := by decide +kernel
theorem dX5_steal_55 : decode cX5_steal 55 = .ok (.iadd, 1) := by decide +kernel
theorem dX5_steal_56 : decode cX5_steal 56 = .ok (.iastore, 1) := by decide +kernel
theorem dX5_steal_57 : decode cX5_steal 57 = .ok (.aload_n 0, 1) := by decide +kernel
theorem dX5_steal_58 : decode cX5_steal 58 = .ok (.dup, 1) := by decide +kernel
theorem dX5_steal_59 : decode cX5_steal 59 = .ok (.getfield 82, 3) := by decide +kernel
theorem dX5_steal_62 : decode cX5_steal 62 = .ok (.iconst 1, 1) := by decide +kernel
theorem dX5_steal_63 : decode cX5_steal 63 = .ok (.iadd, 1) := by decide +kernel
theorem dX5_steal_64 : decode cX5_steal 64 = .ok (.putfield 82, 3) := by decide +kernel
theorem dX5_steal_67 : decode cX5_steal 67 = .ok (.return_, 1) := by decide +kernel
theorem dX6_init_0 : decode cX6_init 0 = .ok (.aload_n 0, 1) := by decide +kernel
theorem dX6_init_1 : decode cX6_init 1 = .ok (.invokespecial 1, 3) := by decide +kernel
theorem dX6_init_4 : decode cX6_init 4 = .ok (.aload_n 0, 1) := by decide +kernel
theorem dX6_init_5 : decode cX6_init 5 = .ok (.bipush 6, 2) := by decide +kernel
theorem dX6_init_7 : decode cX6_init 7 = .ok (.newarray .int, 2) := by decide +kernel
theorem dX6_init_9 : decode cX6_init 9 = .ok (.putfield 9, 3) := by decide +kernel
theorem dX6_init_12 : decode cX6_init 12 = .ok (.aload_n 0, 1) := by decide +kernel
theorem dX6_init_13 : decode cX6_init 13 = .ok (.bipush 6, 2) := by decide +kernel
theorem dX6_init_15 : decode cX6_init 15 = .ok (.newarray .int, 2) := by decide +kernel
theorem dX6_init_17 : decode cX6_init 17 = .ok (.putfield 13, 3) := by decide +kernel
theorem dX6_init_20 : decode cX6_init 20 = .ok (.aload_n 0, 1) := by decide +kernel
theorem dX6_init_21 : decode cX6_init 21 = .ok (.bipush 10, 2) := by decide +kernel
theorem dX6_init_23 : decode cX6_init 23 = .ok (.newarray .int, 2) := by decide +kernel
theorem dX6_init_25 : decode cX6_init 25 = .ok (.putfield 16, 3) := by decide +kernel
theorem dX6_init_28 : decode cX6_init 28 = .ok (.aload_n 0, 1) := by decide +kernel
theorem dX6_init_29 : decode cX6_init 29 = .ok (.bipush 10, 2) := by decide +kernel
theorem dX6_init_31 : decode cX6_init 31 = .ok (.newarray .int, 2) := by decide +kernel
theorem dX6_init_33 : decode cX6_init 33 = .ok (.putfield 19, 3) := by decide +kernel
theorem dX6_init_36 : decode cX6_init 36 = .ok (.aload_n 0, 1) := by decide +kernel
theorem dX6_init_37 : decode cX6_init 37 = .ok (.bipush 10, 2) := by decide +kernel
theorem dX6_init_39 : decode cX6_init 39 = .ok (.putfield 22, 3) := by decide +kernel
theorem dX6_init_42 : decode cX6_init 42 = .ok (.aload_n 0, 1) := by decide +kernel
theorem dX6_init_43 : decode cX6_init 43 = .ok (.new 26, 3) := by decide +kernel
theorem dX6_init_46 : decode cX6_init 46 = .ok (.dup, 1) := by decide +kernel
theorem dX6_init_47 : decode cX6_init 47 = .ok (.invokespecial 28, 3) := by decide +kernel
theorem dX6_init_50 : decode cX6_init 50 = .ok (.putfield 29, 3) := by decide +kernel
theorem dX6_init_53 : decode cX6_init 53 = .ok (.aload_n 0, 1) := by decide +kernel
theorem dX6_init_54 : decode cX6_init 54 = .ok (.new 26, 3) := by decide +kernel
theorem dX6_init_57 : decode cX6_init 57 = .ok (.dup, 1) := by decide +kernel
theorem dX6_init_58 : decode cX6_init 58 = .ok (.invokespecial 28, 3) := by decide +kernel
theorem dX6_init_61 : decode cX6_init 61 = .ok (.putfield 33, 3) := by decide +kernel
theorem dX6_init_64 : decode cX6_init 64 = .ok (.return_, 1) := by decide +kernel
theorem dX6_thrown_0 : decode cX6_thrown 0 = .ok (.aload_n 0, 1) := by decide +kernel
theorem dX6_thrown_1 : decode cX6_thrown 1 = .ok (.getfield 36, 3) := by decide +kernel
theorem dX6_thrown_4 : decode cX6_thrown 4 = .ok (.ireturn, 1) := by decide +kernel
theorem dX6_no_0 : decode cX6_no 0 = .ok (.aload_n 0, 1) := by decide +kernel
theorem dX6_no_1 : decode cX6_no 1 = .ok (.iload_n 1, 1) := by decide +kernel
theorem dX6_no_2 : decode cX6_no 2 = .ok (.putfield 36, 3) := by decide +kernel
theorem dX6_no_5 : decode cX6_no 5 = .ok (.iconst 0, 1) := by decide +kernel
theorem dX6_no_6 : decode cX6_no 6 = .ok (.ireturn, 1) := by decide +kernel
theorem dX6_isIn_0 : decode cX6_isIn 0 = .ok (.iload_n 0, 1) := by decide +kernel
theorem dX6_isIn_1 : decode cX6_isIn 1 = .ok (.iload_n 1, 1) := by decide +kernel
theorem dX6_isIn_2 : decode cX6_isIn 2 = .ok (.if_icmp .lt 12, 3) := by decide +kernel
theorem dX6_isIn_5 : decode cX6_isIn 5 = .ok (.iload_n 0, 1) := by decide +kernel
theorem dX6_isIn_6 : decode cX6_isIn 6 = .ok (.iload_n 2, 1) := by decide +kernel
theorem dX6_isIn_7 : decode cX6_isIn 7 = .ok (.if_icmp .gt 7, 3) := by decide +kernel
theorem dX6_isIn_10 : decode cX6_isIn 10 = .ok (.iconst 1, 1) := by decide +kernel
theorem dX6_isIn_11 : decode cX6_isIn 11 = .ok (.goto 4, 3) := by decide +kernel
theorem dX6_isIn_14 : decode cX6_isIn 14 = .ok (.iconst 0, 1) := by decide +kernel
theorem dX6_isIn_15 : decode cX6_isIn 15 = .ok (.ireturn, 1) := by decide +kernel
theorem dX6_isLad_0 : decode cX6_isLad 0 = .ok (.iload_n 1, 1) := by decide +kernel
theorem dX6_isLad_1 : decode cX6_isLad 1 = .ok (.iconst 0, 1) := by decide +kernel
theorem dX6_isLad_2 : decode cX6_isLad 2 = .ok (.aload_n 0, 1) := by decide +kernel
theorem dX6_isLad_3 : decode cX6_isLad 3 = .ok (.getfield 39, 3) := by decide +kernel
theorem dX6_isLad_6 : decode cX6_isLad 6 = .ok (.iconst 1, 1) := by decide +kernel
theorem dX6_isLad_7 : decode cX6_isLad 7 = .ok (.isub, 1) := by decide +kernel
theorem dX6_isLad_8 : decode cX6_isLad 8 = .ok (.invokestatic 42, 3) := by decide +kernel
theorem dX6_isLad_11 : decode cX6_isLad 11 = .ok (.ireturn, 1) := by decide +kernel
theorem dX6_isLoad_0 : decode cX6_isLoad 0 = .ok (.iload_n 1, 1) := by decide +kernel
theorem dX6_isLoad_1 : decode cX6_isLoad 1 = .ok (.iconst 0, 1) := by decide +kernel
theorem dX6_isLoad_2 : decode cX6_isLoad 2 = .ok (.aload_n 0, 1) := by decide +kernel
theorem dX6_isLoad_3 : decode cX6_isLoad 3 = .ok (.getfield 46, 3) := by decide +kernel
theorem dX6_isLoad_6 : decode cX6_isLoad 6 = .ok (.iconst 1, 1) := by decide +kernel
theorem dX6_isLoad_7 : decode cX6_isLoad 7 = .ok (.isub, 1) := by decide +kernel
theorem dX6_isLoad_8 : decode cX6_isLoad 8 = .ok (.invokestatic 42, 3) := by decide +kernel
theorem dX6_isLoad_11 : decode cX6_isLoad 11 = .ok (.ireturn, 1) := by decide +kernel
theorem dX6_rank_0 : decode cX6_rank 0 = .ok (.aload_n 0, 1) := by decide +kernel
theorem dX6_rank_1 : decode cX6_rank 1 = .ok (.getfield 13, 3) := by decide +kernel
theorem dX6_rank_4 : decode cX6_rank 4 = .ok (.iload_n 2, 1) := by decide +kernel
theorem dX6_rank_5 : decode cX6_rank 5 = .ok (.iaload, 1) := by decide +kernel
theorem dX6_rank_6 : decode cX6_rank 6 = .ok (.ifCond .ne 7, 3) := by decide +kernel
theorem dX6_rank_9 : decode cX6_rank 9 = .ok (.iconst 0, 1) := by decide +kernel
theorem dX6_rank_10 : decode cX6_rank 10 = .ok (.goto 32, 3) := by decide +kernel
theorem dX6_rank_13 : decode cX6_rank 13 = .ok (.aload_n 0, 1) := by decide +kernel
theorem dX6_rank_14 : decode cX6_rank 14 = .ok (.getfield 13, 3) := by decide +kernel
theorem dX6_rank_17 : decode cX6_rank 17 = .ok (.iload_n 2, 1) := by decide +kernel
theorem dX6_rank_18 : decode cX6_rank 18 = .ok (.iaload, 1) := by decide +kernel
theorem dX6_rank_19 : decode cX6_rank 19 = .ok (.iconst 1, 1) := by decide +kernel
theorem dX6_rank_20 : decode cX6_rank 20 = .ok (.if_icmp .ne 12, 3) := by decide +kernel
theorem dX6_rank_23 : decode cX6_rank 23 = .ok (.aload_n 1, 1) := by decide +kernel
theorem dX6_rank_24 : decode cX6_rank 24 = .ok (.getfield 49, 3) := by decide +kernel
theorem dX6_rank_27 : decode cX6_rank 27 = .ok (.iload_n 3, 1) := by decide +kernel
theorem dX6_rank_28 : decode cX6_rank 28 = .ok (.iaload, 1) := by decide +kernel
theorem dX6_rank_29 : decode cX6_rank 29 = .ok (.goto 13, 3) := by decide +kernel
theorem dX6_rank_32 : decode cX6_rank 32 = .ok (.aload_n 1, 1) := by decide +kernel
theorem dX6_rank_33 : decode cX6_rank 33 = .ok (.getfield 52, 3) := by decide +kernel
theorem dX6_rank_36 : decode cX6_rank 36 = .ok (.aload_n 1, 1) := by decide +kernel
theorem dX6_rank_37 : decode cX6_rank 37 = .ok (.iload_n 3, 1) := by decide +kernel
theorem dX6_rank_38 : decode cX6_rank 38 = .ok (.invokevirtual 55, 3) := by decide +kernel
theorem dX6_rank_41 : decode cX6_rank 41 = .ok (.iaload, 1) := by decide +kernel
theorem dX6_rank_42 : decode cX6_rank 42 = .ok (.ireturn, 1) := by decide +kernel
theorem dX6_victimOf_0 : decode cX6_victimOf 0 = .ok (.iconst (-1), 1) := by decide +kernel
theorem dX6_victimOf_1 : decode cX6_victimOf 1 = .ok (.istore_n 3, 1) := by decide +kernel
theorem dX6_victimOf_2 : decode cX6_victimOf 2 = .ok (.iconst 1, 1) := by decide +kernel
theorem dX6_victimOf_3 : decode cX6_victimOf 3 = .ok (.istore 4, 2) := by decide +kernel
theorem dX6_victimOf_5 : decode cX6_victimOf 5 = .ok (.iload 4, 2) := by decide +kernel
theorem dX6_victimOf_7 : decode cX6_victimOf 7 = .ok (.aload_n 0, 1) := by decide +kernel
theorem dX6_victimOf_8 : decode cX6_victimOf 8 = .ok (.getfield 39, 3) := by decide +kernel
theorem dX6_victimOf_11 : decode cX6_victimOf 11 = .ok (.if_icmp .ge 86, 3) := by decide +kernel
theorem dX6_victimOf_14 : decode cX6_victimOf 14 = .ok (.aload_n 0, 1) := by decide +kernel
theorem dX6_victimOf_15 : decode cX6_victimOf 15 = .ok (.getfield 13, 3) := by decide +kernel
theorem dX6_victimOf_18 : decode cX6_victimOf 18 = .ok (.iload_n 2, 1) := by decide +kernel
theorem dX6_victimOf_19 : decode cX6_victimOf 19 = .ok (.iaload, 1) := by decide +kernel
theorem dX6_victimOf_20 : decode cX6_victimOf 20 = .ok (.ifCond .ne 15, 3) := by decide +kernel
theorem dX6_victimOf_23 : decode cX6_victimOf 23 = .ok (.iload_n 2, 1) := by decide +kernel
theorem dX6_victimOf_24 : decode cX6_victimOf 24 = .ok (.iload 4, 2) := by decide +kernel
theorem dX6_victimOf_26 : decode cX6_victimOf 26 = .ok (.iadd, 1) := by decide +kernel
theorem dX6_victimOf_27 : decode cX6_victimOf 27 = .ok (.aload_n 0, 1) := by decide +kernel
theorem dX6_victimOf_28 : decode cX6_victimOf 28 = .ok (.getfield 39, 3) := by decide +kernel
theorem dX6_victimOf_31 : decode cX6_victimOf 31 = .ok (.irem, 1) := by decide +kernel
theorem dX6_victimOf_32 : decode cX6_victimOf 32 = .ok (.goto 18, 3) := by decide +kernel
theorem dX6_victimOf_35 : decode cX6_victimOf 35 = .ok (.iload 4, 2) := by decide +kernel
theorem dX6_victimOf_37 : decode cX6_victimOf 37 = .ok (.iload_n 2, 1) := by decide +kernel
theorem dX6_victimOf_38 : decode cX6_victimOf 38 = .ok (.if_icmp .gt 10, 3) := by decide +kernel
theorem dX6_victimOf_41 : decode cX6_victimOf 41 = .ok (.iload 4, 2) := by decide +kernel
theorem dX6_victimOf_43 : decode cX6_victimOf 43 = .ok (.iconst 1, 1) := by decide +kernel
theorem dX6_victimOf_44 : decode cX6_victimOf 44 = .ok (.isub, 1) := by decide +kernel
theorem dX6_victimOf_45 : decode cX6_victimOf 45 = .ok (.goto 5, 3) := by decide +kernel
theorem dX6_victimOf_48 : decode cX6_victimOf 48 = .ok (.iload 4, 2) := by decide +kernel
theorem dX6_victimOf_50 : decode cX6_victimOf 50 = .ok (.istore 5, 2) := by decide +kernel
theorem dX6_victimOf_52 : decode cX6_victimOf 52 = .ok (.aload_n 1, 1) := by decide +kernel
theorem dX6_victimOf_53 : decode cX6_victimOf 53 = .ok (.getfield 49, 3) := by decide +kernel
theorem dX6_victimOf_56 : decode cX6_victimOf 56 = .ok (.iload 5, 2) := by decide +kernel
theorem dX6_victimOf_58 : decode cX6_victimOf 58 = .ok (.iaload, 1) := by decide +kernel
theorem dX6_victimOf_59 : decode cX6_victimOf 59 = .ok (.ifCond .ne 6, 3) := by decide +kernel
theorem dX6_victimOf_62 : decode cX6_victimOf 62 = .ok (.goto 29, 3) := by decide +kernel
theorem dX6_victimOf_65 : decode cX6_victimOf 65 = .ok (.iload_n 3, 1) := by decide +kernel
theorem dX6_victimOf_66 : decode cX6_victimOf 66 = .ok (.iconst (-1), 1) := by decide +kernel
theorem dX6_victimOf_67 : decode cX6_victimOf 67 = .ok (.if_icmp .eq 21, 3) := by decide +kernel
theorem dX6_victimOf_70 : decode cX6_victimOf 70 = .ok (.aload_n 0, 1) := by decide +kernel
theorem dX6_victimOf_71 : decode cX6_victimOf 71 = .ok (.aload_n 1, 1) := by decide +kernel
theorem dX6_victimOf_72 : decode cX6_victimOf 72 = .ok (.iload_n 2, 1) := by decide +kernel
theorem dX6_victimOf_73 : decode cX6_victimOf 73 = .ok (.iload 5, 2) := by decide +kernel
theorem dX6_victimOf_75 : decode cX6_victimOf 75 = .ok (.invokevirtual 59, 3) := by decide +kernel
theorem dX6_victimOf_78 : decode cX6_victimOf 78 = .ok (.aload_n 0, 1) := by decide +kernel
theorem dX6_victimOf_79 : decode cX6_victimOf 79 = .ok (.aload_n 1, 1) := by decide +kernel
theorem dX6_victimOf_80 : decode cX6_victimOf 80 = .ok (.iload_n 2, 1) := by decide +kernel
theorem dX6_victimOf_81 : decode cX6_victimOf 81 = .ok (.iload_n 3, 1) := by decide +kernel
theorem dX6_victimOf_82 : decode cX6_victimOf 82 = .ok (.invokevirtual 59, 3) := by decide +kernel
theorem dX6_victimOf_85 : decode cX6_victimOf 85 = .ok (.if_icmp .le 6, 3) := by decide +kernel
theorem dX6_victimOf_88 : decode cX6_victimOf 88 = .ok (.iload 5, 2) := by decide +kernel
theorem dX6_victimOf_90 : decode cX6_victimOf 90 = .ok (.istore_n 3, 1) := by decide +kernel
theorem dX6_victimOf_91 : decode cX6_victimOf 91 = .ok (.iinc 4 1, 3) := by decide +kernel
theorem dX6_victimOf_94 : decode cX6_victimOf 94 = .ok (.goto (-89), 3) := by decide +kernel
theorem dX6_victimOf_97 : decode cX6_victimOf 97 = .ok (.iload_n 3, 1) := by decide +kernel
theorem dX6_victimOf_98 : decode cX6_victimOf 98 = .ok (.ireturn, 1) := by decide +kernel
theorem dX6_inYard_0 : decode cX6_inYard 0 = .ok (.iconst 0, 1) := by decide +kernel
theorem dX6_inYard_1 : decode cX6_inYard 1 = .ok (.istore_n 2, 1) := by decide +kernel
theorem dX6_inYard_2 : decode cX6_inYard 2 = .ok (.iload_n 2, 1) := by decide +kernel
theorem dX6_inYard_3 : decode cX6_inYard 3 = .ok (.aload_n 0, 1) := by decide +kernel
theorem dX6_inYard_4 : decode cX6_inYard 4 = .ok (.getfield 46, 3) := by decide +kernel
theorem dX6_inYard_7 : decode cX6_inYard 7 = .ok (.if_icmp .ge 20, 3) := by decide +kernel
theorem dX6_inYard_10 : decode cX6_inYard 10 = .ok (.aload_n 1, 1) := by decide +kernel
theorem dX6_inYard_11 : decode cX6_inYard 11 = .ok (.getfield 63, 3) := by decide +kernel
theorem dX6_inYard_14 : decode cX6_inYard 14 = .ok (.iload_n 2, 1) := by decide +kernel
theorem dX6_inYard_15 : decode cX6_inYard 15 = .ok (.iaload, 1) := by decide +kernel
theorem dX6_inYard_16 : decode cX6_inYard 16 = .ok (.ifCond .ne 5, 3) := by decide +kernel
theorem dX6_inYard_19 : decode cX6_inYard 19 = .ok (.iload_n 2, 1) := by decide +kernel
theorem dX6_inYard_20 : decode cX6_inYard 20 = .ok (.ireturn, 1) := by decide +kernel
theorem dX6_inYard_21 : decode cX6_inYard 21 = .ok (.iinc 2 1, 3) := by decide +kernel
theorem dX6_inYard_24 : decode cX6_inYard 24 = .ok (.goto (-22), 3) := by decide +kernel
theorem dX6_inYard_27 : decode cX6_inYard 27 = .ok (.iconst (-1), 1) := by decide +kernel
theorem dX6_inYard_28 : decode cX6_inYard 28 = .ok (.ireturn, 1) := by decide +kernel
theorem dX6_turn_0 : decode cX6_turn 0 = .ok (.aload_n 1, 1) := by decide +kernel
theorem dX6_turn_1 : decode cX6_turn 1 = .ok (.getfield 66, 3) := by decide +kernel
theorem dX6_turn_4 : decode cX6_turn 4 = .ok (.iload_n 2, 1) := by decide +kernel
theorem dX6_turn_5 : decode cX6_turn 5 = .ok (.iaload, 1) := by decide +kernel
theorem dX6_turn_6 : decode cX6_turn 6 = .ok (.iconst 3, 1) := by decide +kernel
theorem dX6_turn_7 : decode cX6_turn 7 = .ok (.if_icmp .ne 4, 3) := by decide +kernel
theorem dX6_turn_10 : decode cX6_turn 10 = .ok (.return_, 1) := by decide +kernel
theorem dX6_turn_11 : decode cX6_turn 11 = .ok (.aload_n 1, 1) := by decide +kernel
theorem dX6_turn_12 : decode cX6_turn 12 = .ok (.getfield 66, 3) := by decide +kernel
theorem dX6_turn_15 : decode cX6_turn 15 = .ok (.iload_n 2, 1) := by decide +kernel
theorem dX6_turn_16 : decode cX6_turn 16 = .ok (.iaload, 1) := by decide +kernel
theorem dX6_turn_17 : decode cX6_turn 17 = .ok (.iconst 2, 1) := by decide +kernel
theorem dX6_turn_18 : decode cX6_turn 18 = .ok (.if_icmp .ne 32, 3) := by decide +kernel
theorem dX6_turn_21 : decode cX6_turn 21 = .ok (.aload_n 1, 1) := by decide +kernel
theorem dX6_turn_22 : decode cX6_turn 22 = .ok (.dup, 1) := by decide +kernel
theorem dX6_turn_23 : decode cX6_turn 23 = .ok (.getfield 69, 3) := by decide +kernel
theorem dX6_turn_26 : decode cX6_turn 26 = .ok (.iconst 1, 1) := by decide +kernel
theorem dX6_turn_27 : decode cX6_turn 27 = .ok (.iadd, 1) := by decide +kernel
theorem dX6_turn_28 : decode cX6_turn 28 = .ok (.putfield 69, 3) := by decide +kernel
theorem dX6_turn_31 : decode cX6_turn 31 = .ok (.aload_n 1, 1) := by decide +kernel
theorem dX6_turn_32 : decode cX6_turn 32 = .ok (.getfield 72, 3) := by decide +kernel
theorem dX6_turn_35 : decode cX6_turn 35 = .ok (.iload_n 2, 1) := by decide +kernel
theorem dX6_turn_36 : decode cX6_turn 36 = .ok (.iconst 0, 1) := by decide +kernel
theorem dX6_turn_37 : decode cX6_turn 37 = .ok (.iastore, 1) := by decide +kernel
theorem dX6_turn_38 : decode cX6_turn 38 = .ok (.aload_n 1, 1) := by decide +kernel
theorem dX6_turn_39 : decode cX6_turn 39 = .ok (.iload_n 2, 1) := by decide +kernel
theorem dX6_turn_40 : decode cX6_turn 40 = .ok (.aload_n 1, 1) := by decide +kernel
theorem dX6_turn_41 : decode cX6_turn 41 = .ok (.getfield 75, 3) := by decide +kernel
theorem dX6_turn_44 : decode cX6_turn 44 = .ok (.iload_n 2, 1) := by decide +kernel
theorem dX6_turn_45 : decode cX6_turn 45 = .ok (.iaload, 1) := by decide +kernel
theorem dX6_turn_46 : decode cX6_turn 46 = .ok (.invokevirtual 78, 3) := by decide +kernel
theorem dX6_turn_49 : decode cX6_turn 49 = .ok (.return_, 1) := by decide +kernel
theorem dX6_turn_50 : decode cX6_turn 50 = .ok (.aload_n 1, 1) := by decide +kernel
theorem dX6_turn_51 : decode cX6_turn 51 = .ok (.getfield 66, 3) := by decide +kernel
theorem dX6_turn_54 : decode cX6_turn 54 = .ok (.iload_n 2, 1) := by decide +kernel
theorem dX6_turn_55 : decode cX6_turn 55 = .ok (.iaload, 1) := by decide +kernel
theorem dX6_turn_56 : decode cX6_turn 56 = .ok (.ifCond .ne 22, 3) := by decide +kernel
theorem dX6_turn_59 : decode cX6_turn 59 = .ok (.aload_n 1, 1) := by decide +kernel
theorem dX6_turn_60 : decode cX6_turn 60 = .ok (.getfield 49, 3) := by decide +kernel
theorem dX6_turn_63 : decode cX6_turn 63 = .ok (.iload_n 2, 1) := by decide +kernel
theorem dX6_turn_64 : decode cX6_turn 64 = .ok (.iaload, 1) := by decide +kernel
theorem dX6_turn_65 : decode cX6_turn 65 = .ok (.ifCond .le 13, 3) := by decide +kernel
theorem dX6_turn_68 : decode cX6_turn 68 = .ok (.aload_n 1, 1) := by decide +kernel
theorem dX6_turn_69 : decode cX6_turn 69 = .ok (.iload_n 2, 1) := by decide +kernel
theorem dX6_turn_70 : decode cX6_turn 70 = .ok (.aload_n 1, 1) := by decide +kernel
theorem dX6_turn_71 : decode cX6_turn 71 = .ok (.iload_n 2, 1) := by decide +kernel
theorem dX6_turn_72 : decode cX6_turn 72 = .ok (.invokevirtual 82, 3) := by decide +kernel
theorem dX6_turn_75 : decode cX6_turn 75 = .ok (.invokevirtual 85, 3) := by decide +kernel
theorem dX6_turn_78 : decode cX6_turn 78 = .ok (.aload_n 1, 1) := by decide +kernel
theorem dX6_turn_79 : decode cX6_turn 79 = .ok (.getfield 66, 3) := by decide +kernel
theorem dX6_turn_82 : decode cX6_turn 82 = .ok (.iload_n 2, 1) := by decide +kernel
theorem dX6_turn_83 : decode cX6_turn 83 = .ok (.iaload, 1) := by decide +kernel
theorem dX6_turn_84 : decode cX6_turn 84 = .ok (.iconst 1, 1) := by decide +kernel
theorem dX6_turn_85 : decode cX6_turn 85 = .ok (.if_icmp .ne 81, 3) := by decide +kernel
theorem dX6_turn_88 : decode cX6_turn 88 = .ok (.aload_n 1, 1) := by decide +kernel
theorem dX6_turn_89 : decode cX6_turn 89 = .ok (.getfield 75, 3) := by decide +kernel
theorem dX6_turn_92 : decode cX6_turn 92 = .ok (.iload_n 2, 1) := by decide +kernel
theorem dX6_turn_93 : decode cX6_turn 93 = .ok (.iaload, 1) := by decide +kernel
theorem dX6_turn_94 : decode cX6_turn 94 = .ok (.istore 4, 2) := by decide +kernel
theorem dX6_turn_96 : decode cX6_turn 96 = .ok (.aload_n 1, 1) := by decide +kernel
theorem dX6_turn_97 : decode cX6_turn 97 = .ok (.getfield 72, 3) := by decide +kernel
theorem dX6_turn_100 : decode cX6_turn 100 = .ok (.iload_n 2, 1) := by decide +kernel
theorem dX6_turn_101 : decode cX6_turn 101 = .ok (.iconst 0, 1) := by decide +kernel
theorem dX6_turn_102 : decode cX6_turn 102 = .ok (.iastore, 1) := by decide +kernel
theorem dX6_turn_103 : decode cX6_turn 103 = .ok (.aload_n 1, 1) := by decide +kernel
theorem dX6_turn_104 : decode cX6_turn 104 = .ok (.getfield 88, 3) := by decide +kernel
theorem dX6_turn_107 : decode cX6_turn 107 = .ok (.iload 4, 2) := by decide +kernel
theorem dX6_turn_109 : decode cX6_turn 109 = .ok (.iaload, 1) := by decide +kernel
theorem dX6_turn_110 : decode cX6_turn 110 = .ok (.aload_n 1, 1) := by decide +kernel
theorem dX6_turn_111 : decode cX6_turn 111 = .ok (.getfield 52, 3) := by decide +kernel
theorem dX6_turn_114 : decode cX6_turn 114 = .ok (.iload 4, 2) := by decide +kernel
theorem dX6_turn_116 : decode cX6_turn 116 = .ok (.iaload, 1) := by decide +kernel
theorem dX6_turn_117 : decode cX6_turn 117 = .ok (.if_icmp .ne 35, 3) := by decide +kernel
theorem dX6_turn_120 : decode cX6_turn 120 = .ok (.aload_n 1, 1) := by decide +kernel
theorem dX6_turn_121 : decode cX6_turn 121 = .ok (.getfield 52, 3) := by decide +kernel
theorem dX6_turn_124 : decode cX6_turn 124 = .ok (.iload 4, 2) := by decide +kernel
theorem dX6_turn_126 : decode cX6_turn 126 = .ok (.iaload, 1) := by decide +kernel
theorem dX6_turn_127 : decode cX6_turn 127 = .ok (.iload_n 3, 1) := by decide +kernel
theorem dX6_turn_128 : decode cX6_turn 128 = .ok (.if_icmp .le 24, 3) := by decide +kernel
theorem dX6_turn_131 : decode cX6_turn 131 = .ok (.aload_n 1, 1) := by decide +kernel
theorem dX6_turn_132 : decode cX6_turn 132 = .ok (.getfield 49, 3) := by decide +kernel
theorem dX6_turn_135 : decode cX6_turn 135 = .ok (.iload_n 2, 1) := by decide +kernel
theorem dX6_turn_136 : decode cX6_turn 136 = .ok (.iaload, 1) := by decide +kernel
theorem dX6_turn_137 : decode cX6_turn 137 = .ok (.bipush 8, 2) := by decide +kernel
theorem dX6_turn_139 : decode cX6_turn 139 = .ok (.if_icmp .ge 13, 3) := by decide +kernel
theorem dX6_turn_142 : decode cX6_turn 142 = .ok (.aload_n 1, 1) := by decide +kernel
theorem dX6_turn_143 : decode cX6_turn 143 = .ok (.iload_n 2, 1) := by decide +kernel
theorem dX6_turn_144 : decode cX6_turn 144 = .ok (.iload 4, 2) := by decide +kernel
theorem dX6_turn_146 : decode cX6_turn 146 = .ok (.invokevirtual 91, 3) := by decide +kernel
theorem dX6_turn_149 : decode cX6_turn 149 = .ok (.goto 16, 3) := by decide +kernel
theorem dX6_turn_152 : decode cX6_turn 152 = .ok (.aload_n 1, 1) := by decide +kernel
theorem dX6_turn_153 : decode cX6_turn 153 = .ok (.iload_n 2, 1) := by decide +kernel
theorem dX6_turn_154 : decode cX6_turn 154 = .ok (.iload 4, 2) := by decide +kernel
theorem dX6_turn_156 : decode cX6_turn 156 = .ok (.aload_n 0, 1) := by decide +kernel
theorem dX6_turn_157 : decode cX6_turn 157 = .ok (.getfield 9, 3) := by decide +kernel
theorem dX6_turn_160 : decode cX6_turn 160 = .ok (.iload_n 2, 1) := by decide +kernel
theorem dX6_turn_161 : decode cX6_turn 161 = .ok (.iaload, 1) := by decide +kernel
theorem dX6_turn_162 : decode cX6_turn 162 = .ok (.invokevirtual 94, 3) := by decide +kernel
theorem dX6_turn_165 : decode cX6_turn 165 = .ok (.return_, 1) := by decide +kernel
theorem dX6_turn_166 : decode cX6_turn 166 = .ok (.aload_n 0, 1) := by decide +kernel
theorem dX6_turn_167 : decode cX6_turn 167 = .ok (.aload_n 1, 1) := by decide +kernel
theorem dX6_turn_168 : decode cX6_turn 168 = .ok (.invokevirtual 98, 3) := by decide +kernel
theorem dX6_turn_171 : decode cX6_turn 171 = .ok (.istore 4, 2) := by decide +kernel
theorem dX6_turn_173 : decode cX6_turn 173 = .ok (.aload_n 0, 1) := by decide +kernel
theorem dX6_turn_174 : decode cX6_turn 174 = .ok (.aload_n 1, 1) := by decide +kernel
theorem dX6_turn_175 : decode cX6_turn 175 = .ok (.iload_n 2, 1) := by decide +kernel
theorem dX6_turn_176 : decode cX6_turn 176 = .ok (.invokevirtual 102, 3) := by decide +kernel
theorem dX6_turn_179 : decode cX6_turn 179 = .ok (.istore 5, 2) := by decide +kernel
theorem dX6_turn_181 : decode cX6_turn 181 = .ok (.iload 4, 2) := by decide +kernel
theorem dX6_turn_183 : decode cX6_turn 183 = .ok (.iconst (-1), 1) := by decide +kernel
theorem dX6_turn_184 : decode cX6_turn 184 = .ok (.if_icmp .ne 15, 3) := by decide +kernel
theorem dX6_turn_187 : decode cX6_turn 187 = .ok (.iload 5, 2) := by decide +kernel
theorem dX6_turn_189 : decode cX6_turn 189 = .ok (.iconst (-1), 1) := by decide +kernel
theorem dX6_turn_190 : decode cX6_turn 190 = .ok (.if_icmp .ne 9, 3) := by decide +kernel
theorem dX6_turn_193 : decode cX6_turn 193 = .ok (.aload_n 1, 1) := by decide +kernel
theorem dX6_turn_194 : decode cX6_turn 194 = .ok (.iload_n 2, 1) := by decide +kernel
theorem dX6_turn_195 : decode cX6_turn 195 = .ok (.invokevirtual 106, 3) := by decide +kernel
theorem dX6_turn_198 : decode cX6_turn 198 = .ok (.return_, 1) := by decide +kernel
theorem dX6_turn_199 : decode cX6_turn 199 = .ok (.aload_n 1, 1) := by decide +kernel
theorem dX6_turn_200 : decode cX6_turn 200 = .ok (.getfield 72, 3) := by decide +kernel
theorem dX6_turn_203 : decode cX6_turn 203 = .ok (.iload_n 2, 1) := by decide +kernel
theorem dX6_turn_204 : decode cX6_turn 204 = .ok (.iconst 0, 1) := by decide +kernel
theorem dX6_turn_205 : decode cX6_turn 205 = .ok (.iastore, 1) := by decide +kernel
theorem dX6_turn_206 : decode cX6_turn 206 = .ok (.iload 4, 2) := by decide +kernel
theorem dX6_turn_208 : decode cX6_turn 208 = .ok (.iconst (-1), 1) := by decide +kernel
theorem dX6_turn_209 : decode cX6_turn 209 = .ok (.if_icmp .ne 13, 3) := by decide +kernel
theorem dX6_turn_212 : decode cX6_turn 212 = .ok (.aload_n 1, 1) := by decide +kernel
theorem dX6_turn_213 : decode cX6_turn 213 = .ok (.iload_n 2, 1) := by decide +kernel
theorem dX6_turn_214 : decode cX6_turn 214 = .ok (.iload 5, 2) := by decide +kernel
theorem dX6_turn_216 : decode cX6_turn 216 = .ok (.invokevirtual 110, 3) := by decide +kernel
theorem dX6_turn_219 : decode cX6_turn 219 = .ok (.goto 23, 3) := by decide +kernel
theorem dX6_turn_222 : decode cX6_turn 222 = .ok (.aload_n 1, 1) := by decide +kernel
theorem dX6_turn_223 : decode cX6_turn 223 = .ok (.getfield 63, 3) := by decide +kernel
theorem dX6_turn_226 : decode cX6_turn 226 = .ok (.iload 4, 2) := by decide +kernel
theorem dX6_turn_228 : decode cX6_turn 228 = .ok (.iconst 1, 1) := by decide +kernel
theorem dX6_turn_229 : decode cX6_turn 229 = .ok (.iastore, 1) := by decide +kernel
theorem dX6_turn_230 : decode cX6_turn 230 = .ok (.aload_n 1, 1) := by decide +kernel
theorem dX6_turn_231 : decode cX6_turn 231 = .ok (.iload_n 2, 1) := by decide +kernel
theorem dX6_turn_232 : decode cX6_turn 232 = .ok (.aload_n 1, 1) := by decide +kernel
theorem dX6_turn_233 : decode cX6_turn 233 = .ok (.getfield 113, 3) := by decide +kernel
theorem dX6_turn_236 : decode cX6_turn 236 = .ok (.iload 4, 2) := by decide +kernel
theorem dX6_turn_238 : decode cX6_turn 238 = .ok (.iaload, 1) := by decide +kernel
theorem dX6_turn_239 : decode cX6_turn 239 = .ok (.invokevirtual 85, 3) := by decide +kernel
theorem dX6_turn_242 : decode cX6_turn 242 = .ok (.return_, 1) := by decide +kernel
theorem dX6_pass_0 : decode cX6_pass 0 = .ok (.iconst 0, 1) := by decide +kernel
theorem dX6_pass_1 : decode cX6_pass 1 = .ok (.istore_n 3, 1) := by decide +kernel
theorem dX6_pass_2 : decode cX6_pass 2 = .ok (.iload_n 3, 1) := by decide +kernel
theorem dX6_pass_3 : decode cX6_pass 3 = .ok (.aload_n 0, 1) := by decide +kernel
theorem dX6_pass_4 : decode cX6_pass 4 = .ok (.getfield 39, 3) := by decide +kernel
theorem dX6_pass_7 : decode cX6_pass 7 = .ok (.if_icmp .ge 16, 3) := by decide +kernel
theorem dX6_pass_10 : decode cX6_pass 10 = .ok (.aload_n 0, 1) := by decide +kernel
theorem dX6_pass_11 : decode cX6_pass 11 = .ok (.aload_n 1, 1) := by decide +kernel
theorem dX6_pass_12 : decode cX6_pass 12 = .ok (.iload_n 3, 1) := by decide +kernel
theorem dX6_pass_13 : decode cX6_pass 13 = .ok (.iload_n 2, 1) := by decide +kernel
theorem dX6_pass_14 : decode cX6_pass 14 = .ok (.invokevirtual 116, 3) := by decide +kernel
theorem dX6_pass_17 : decode cX6_pass 17 = .ok (.iinc 3 1, 3) := by decide +kernel
theorem dX6_pass_20 : decode cX6_pass 20 = .ok (.goto (-18), 3) := by decide +kernel
theorem dX6_pass_23 : decode cX6_pass 23 = .ok (.aload_n 1, 1) := by decide +kernel
theorem dX6_pass_24 : decode cX6_pass 24 = .ok (.dup, 1) := by decide +kernel
theorem dX6_pass_25 : decode cX6_pass 25 = .ok (.getfield 120, 3) := by decide +kernel
theorem dX6_pass_28 : decode cX6_pass 28 = .ok (.iconst 1, 1) := by decide +kernel
theorem dX6_pass_29 : decode cX6_pass 29 = .ok (.iadd, 1) := by decide +kernel
theorem dX6_pass_30 : decode cX6_pass 30 = .ok (.putfield 120, 3) := by decide +kernel
theorem dX6_pass_33 : decode cX6_pass 33 = .ok (.return_, 1) := by decide +kernel
theorem dX6_passAll_0 : decode cX6_passAll 0 = .ok (.iconst 0, 1) := by decide +kernel
theorem dX6_passAll_1 : decode cX6_passAll 1 = .ok (.istore 4, 2) := by decide +kernel
theorem dX6_passAll_3 : decode cX6_passAll 3 = .ok (.iload 4, 2) := by decide +kernel
theorem dX6_passAll_5 : decode cX6_passAll 5 = .ok (.iload_n 2, 1) := by decide +kernel
theorem dX6_passAll_6 : decode cX6_passAll 6 = .ok (.if_icmp .ge 15, 3) := by decide +kernel
theorem dX6_passAll_9 : decode cX6_passAll 9 = .ok (.aload_n 0, 1) := by decide +kernel
theorem dX6_passAll_10 : decode cX6_passAll 10 = .ok (.aload_n 1, 1) := by decide +kernel
theorem dX6_passAll_11 : decode cX6_passAll 11 = .ok (.iload_n 3, 1) := by decide +kernel
theorem dX6_passAll_12 : decode cX6_passAll 12 = .ok (.invokevirtual 123, 3) := by decide +kernel
theorem dX6_passAll_15 : decode cX6_passAll 15 = .ok (.iinc 4 1, 3) := by decide +kernel
theorem dX6_passAll_18 : decode cX6_passAll 18 = .ok (.goto (-15), 3) := by decide +kernel
theorem dX6_passAll_21 : decode cX6_passAll 21 = .ok (.aload_n 1, 1) := by decide +kernel
theorem dX6_passAll_22 : decode cX6_passAll 22 = .ok (.areturn, 1) := by decide +kernel
theorem dX6_come_0 : decode cX6_come 0 = .ok (.aload_n 0, 1) := by decide +kernel
theorem dX6_come_1 : decode cX6_come 1 = .ok (.iconst 0, 1) := by decide +kernel
theorem dX6_come_2 : decode cX6_come 2 = .ok (.putfield 36, 3) := by decide +kernel
theorem dX6_come_5 : decode cX6_come 5 = .ok (.iload_n 1, 1) := by decide +kernel
theorem dX6_come_6 : decode cX6_come 6 = .ok (.iconst 1, 1) := by decide +kernel
theorem dX6_come_7 : decode cX6_come 7 = .ok (.bipush 9, 2) := by decide +kernel
theorem dX6_come_9 : decode cX6_come 9 = .ok (.invokestatic 42, 3) := by decide +kernel
theorem dX6_come_12 : decode cX6_come 12 = .ok (.ifCond .ne 9, 3) := by decide +kernel
theorem dX6_come_15 : decode cX6_come 15 = .ok (.aload_n 0, 1) := by decide +kernel
theorem dX6_come_16 : decode cX6_come 16 = .ok (.iconst 1, 1) := by decide +kernel
theorem dX6_come_17 : decode cX6_come 17 = .ok (.invokevirtual 127, 3) := by decide +kernel
theorem dX6_come_20 : decode cX6_come 20 = .ok (.ireturn, 1) := by decide +kernel
theorem dX6_come_21 : decode cX6_come 21 = .ok (.aload_n 0, 1) := by decide +kernel
theorem dX6_come_22 : decode cX6_come 22 = .ok (.getfield 39, 3) := by decide +kernel
theorem dX6_come_25 : decode cX6_come 25 = .ok (.bipush 6, 2) := by decide +kernel
theorem dX6_come_27 : decode cX6_come 27 = .ok (.if_icmp .ne 9, 3) := by decide +kernel
theorem dX6_come_30 : decode cX6_come 30 = .ok (.aload_n 0, 1) := by decide +kernel
theorem dX6_come_31 : decode cX6_come 31 = .ok (.iconst 2, 1) := by decide +kernel
theorem dX6_come_32 : decode cX6_come 32 = .ok (.invokevirtual 127, 3) := by decide +kernel
theorem dX6_come_35 : decode cX6_come 35 = .ok (.ireturn, 1) := by decide +kernel
theorem dX6_come_36 : decode cX6_come 36 = .ok (.aload_n 0, 1) := by decide +kernel
theorem dX6_come_37 : decode cX6_come 37 = .ok (.getfield 9, 3) := by decide +kernel
theorem dX6_come_40 : decode cX6_come 40 = .ok (.aload_n 0, 1) := by decide +kernel
theorem dX6_come_41 : decode cX6_come 41 = .ok (.getfield 39, 3) := by decide +kernel
theorem dX6_come_44 : decode cX6_come 44 = .ok (.iload_n 1, 1) := by decide +kernel
theorem dX6_come_45 : decode cX6_come 45 = .ok (.iastore, 1) := by decide +kernel
theorem dX6_come_46 : decode cX6_come 46 = .ok (.aload_n 0, 1) := by decide +kernel
theorem dX6_come_47 : decode cX6_come 47 = .ok (.dup, 1) := by decide +kernel
theorem dX6_come_48 : decode cX6_come 48 = .ok (.getfield 39, 3) := by decide +kernel
theorem dX6_come_51 : decode cX6_come 51 = .ok (.iconst 1, 1) := by decide +kernel
theorem dX6_come_52 : decode cX6_come 52 = .ok (.iadd, 1) := by decide +kernel
theorem dX6_come_53 : decode cX6_come 53 = .ok (.putfield 39, 3) := by decide +kernel
theorem dX6_come_56 : decode cX6_come 56 = .ok (.aload_n 0, 1) := by decide +kernel
theorem dX6_come_57 : decode cX6_come 57 = .ok (.getfield 39, 3) := by decide +kernel
theorem dX6_come_60 : decode cX6_come 60 = .ok (.iconst 1, 1) := by decide +kernel
theorem dX6_come_61 : decode cX6_come 61 = .ok (.isub, 1) := by decide +kernel
theorem dX6_come_62 : decode cX6_come 62 = .ok (.ireturn, 1) := by decide +kernel
theorem dX6_setWay_0 : decode cX6_setWay 0 = .ok (.aload_n 0, 1) := by decide +kernel
theorem dX6_setWay_1 : decode cX6_setWay 1 = .ok (.iconst 0, 1) := by decide +kernel
theorem dX6_setWay_2 : decode cX6_setWay 2 = .ok (.putfield 36, 3) := by decide +kernel
theorem dX6_setWay_5 : decode cX6_setWay 5 = .ok (.aload_n 0, 1) := by decide +kernel
theorem dX6_setWay_6 : decode cX6_setWay 6 = .ok (.iload_n 1, 1) := by decide +kernel
theorem dX6_setWay_7 : decode cX6_setWay 7 = .ok (.invokevirtual 130, 3) := by decide +kernel
theorem dX6_setWay_10 : decode cX6_setWay 10 = .ok (.ifCond .eq 12, 3) := by decide +kernel
theorem dX6_setWay_13 : decode cX6_setWay 13 = .ok (.iload_n 2, 1) := by decide +kernel
theorem dX6_setWay_14 : decode cX6_setWay 14 = .ok (.iconst 0, 1) := by decide +kernel
theorem dX6_setWay_15 : decode cX6_setWay 15 = .ok (.iconst 2, 1) := by decide +kernel
theorem dX6_setWay_16 : decode cX6_setWay 16 = .ok (.invokestatic 42, 3) := by decide +kernel
theorem dX6_setWay_19 : decode cX6_setWay 19 = .ok (.ifCond .ne 9, 3) := by decide +kernel
theorem dX6_setWay_22 : decode cX6_setWay 22 = .ok (.aload_n 0, 1) := by decide +kernel
theorem dX6_setWay_23 : decode cX6_setWay 23 = .ok (.iconst 1, 1) := by decide +kernel
theorem dX6_setWay_24 : decode cX6_setWay 24 = .ok (.invokevirtual 127, 3) := by decide +kernel
theorem dX6_setWay_27 : decode cX6_setWay 27 = .ok (.ireturn, 1) := by decide +kernel
theorem dX6_setWay_28 : decode cX6_setWay 28 = .ok (.aload_n 0, 1) := by decide +kernel
theorem dX6_setWay_29 : decode cX6_setWay 29 = .ok (.getfield 13, 3) := by decide +kernel
theorem dX6_setWay_32 : decode cX6_setWay 32 = .ok (.iload_n 1, 1) := by decide +kernel
theorem dX6_setWay_33 : decode cX6_setWay 33 = .ok (.iaload, 1) := by decide +kernel
theorem dX6_setWay_34 : decode cX6_setWay 34 = .ok (.istore_n 3, 1) := by decide +kernel
theorem dX6_setWay_35 : decode cX6_setWay 35 = .ok (.aload_n 0, 1) := by decide +kernel
theorem dX6_setWay_36 : decode cX6_setWay 36 = .ok (.getfield 13, 3) := by decide +kernel
theorem dX6_setWay_39 : decode cX6_setWay 39 = .ok (.iload_n 1, 1) := by decide +kernel
theorem dX6_setWay_40 : decode cX6_setWay 40 = .ok (.iload_n 2, 1) := by decide +kernel
theorem dX6_setWay_41 : decode cX6_setWay 41 = .ok (.iastore, 1) := by decide +kernel
theorem dX6_setWay_42 : decode cX6_setWay 42 = .ok (.iload_n 3, 1) := by decide +kernel
theorem dX6_setWay_43 : decode cX6_setWay 43 = .ok (.ireturn, 1) := by decide +kernel
theorem dX6_setFork_0 : decode cX6_setFork 0 = .ok (.aload_n 0, 1) := by decide +kernel
theorem dX6_setFork_1 : decode cX6_setFork 1 = .ok (.iconst 0, 1) := by decide +kernel
theorem dX6_setFork_2 : decode cX6_setFork 2 = .ok (.putfield 36, 3) := by decide +kernel
theorem dX6_setFork_5 : decode cX6_setFork 5 = .ok (.iload_n 1, 1) := by decide +kernel
theorem dX6_setFork_6 : decode cX6_setFork 6 = .ok (.iconst 4, 1) := by decide +kernel
theorem dX6_setFork_7 : decode cX6_setFork 7 = .ok (.bipush 60, 2) := by decide +kernel
theorem dX6_setFork_9 : decode cX6_setFork 9 = .ok (.invokestatic 42, 3) := by decide +kernel
theorem dX6_setFork_12 : decode cX6_setFork 12 = .ok (.ifCond .ne 9, 3) := by decide +kernel
theorem dX6_setFork_15 : decode cX6_setFork 15 = .ok (.aload_n 0, 1) := by decide +kernel
theorem dX6_setFork_16 : decode cX6_setFork 16 = .ok (.iconst 1, 1) := by decide +kernel
theorem dX6_setFork_17 : decode cX6_setFork 17 = .ok (.invokevirtual 127, 3) := by decide +kernel
theorem dX6_setFork_20 : decode cX6_setFork 20 = .ok (.ireturn, 1) := by decide +kernel
theorem dX6_setFork_21 : decode cX6_setFork 21 = .ok (.aload_n 0, 1) := by decide +kernel
theorem dX6_setFork_22 : decode cX6_setFork 22 = .ok (.getfield 22, 3) := by decide +kernel
theorem dX6_setFork_25 : decode cX6_setFork 25 = .ok (.istore_n 2, 1) := by decide +kernel
theorem dX6_setFork_26 : decode cX6_setFork 26 = .ok (.aload_n 0, 1) := by decide +kernel
theorem dX6_setFork_27 : decode cX6_setFork 27 = .ok (.iload_n 1, 1) := by decide +kernel
theorem dX6_setFork_28 : decode cX6_setFork 28 = .ok (.putfield 22, 3) := by decide +kernel
theorem dX6_setFork_31 : decode cX6_setFork 31 = .ok (.iload_n 2, 1) := by decide +kernel
theorem dX6_setFork_32 : decode cX6_setFork 32 = .ok (.ireturn, 1) := by decide +kernel
theorem dX6_bring_0 : decode cX6_bring 0 = .ok (.aload_n 0, 1) := by decide +kernel
theorem dX6_bring_1 : decode cX6_bring 1 = .ok (.iconst 0, 1) := by decide +kernel
theorem dX6_bring_2 : decode cX6_bring 2 = .ok (.putfield 36, 3) := by decide +kernel
theorem dX6_bring_5 : decode cX6_bring 5 = .ok (.iload_n 1, 1) := by decide +kernel
theorem dX6_bring_6 : decode cX6_bring 6 = .ok (.iconst 1, 1) := by decide +kernel
theorem dX6_bring_7 : decode cX6_bring 7 = .ok (.bipush 60, 2) := by decide +kernel
theorem dX6_bring_9 : decode cX6_bring 9 = .ok (.invokestatic 42, 3) := by decide +kernel
theorem dX6_bring_12 : decode cX6_bring 12 = .ok (.ifCond .ne 9, 3) := by decide +kernel
theorem dX6_bring_15 : decode cX6_bring 15 = .ok (.aload_n 0, 1) := by decide +kernel
theorem dX6_bring_16 : decode cX6_bring 16 = .ok (.iconst 1, 1) := by decide +kernel
theorem dX6_bring_17 : decode cX6_bring 17 = .ok (.invokevirtual 127, 3) := by decide +kernel
theorem dX6_bring_20 : decode cX6_bring 20 = .ok (.ireturn, 1) := by decide +kernel
theorem dX6_bring_21 : decode cX6_bring 21 = .ok (.aload_n 0, 1) := by decide +kernel
theorem dX6_bring_22 : decode cX6_bring 22 = .ok (.getfield 46, 3) := by decide +kernel
theorem dX6_bring_25 : decode cX6_bring 25 = .ok (.bipush 10, 2) := by decide +kernel
theorem dX6_bring_27 : decode cX6_bring 27 = .ok (.if_icmp .ne 9, 3) := by decide +kernel
theorem dX6_bring_30 : decode cX6_bring 30 = .ok (.aload_n 0, 1) := by decide +kernel
theorem dX6_bring_31 : decode cX6_bring 31 = .ok (.iconst 2, 1) := by decide +kernel
theorem dX6_bring_32 : decode cX6_bring 32 = .ok (.invokevirtual 127, 3) := by decide +kernel
theorem dX6_bring_35 : decode cX6_bring 35 = .ok (.ireturn, 1) := by decide +kernel
theorem dX6_bring_36 : decode cX6_bring 36 = .ok (.aload_n 0, 1) := by decide +kernel
theorem dX6_bring_37 : decode cX6_bring 37 = .ok (.getfield 16, 3) := by decide +kernel
theorem dX6_bring_40 : decode cX6_bring 40 = .ok (.aload_n 0, 1) := by decide +kernel
theorem dX6_bring_41 : decode cX6_bring 41 = .ok (.getfield 46, 3) := by decide +kernel
theorem dX6_bring_44 : decode cX6_bring 44 = .ok (.iload_n 1, 1) := by decide +kernel
theorem dX6_bring_45 : decode cX6_bring 45 = .ok (.iastore, 1) := by decide +kernel
theorem dX6_bring_46 : decode cX6_bring 46 = .ok (.aload_n 0, 1) := by decide +kernel
theorem dX6_bring_47 : decode cX6_bring 47 = .ok (.getfield 19, 3) := by decide +kernel
theorem dX6_bring_50 : decode cX6_bring 50 = .ok (.aload_n 0, 1) := by decide +kernel
theorem dX6_bring_51 : decode cX6_bring 51 = .ok (.getfield 46, 3) := by decide +kernel
theorem dX6_bring_54 : decode cX6_bring 54 = .ok (.aload_n 0, 1) := by decide +kernel
theorem dX6_bring_55 : decode cX6_bring 55 = .ok (.getfield 29, 3) := by decide +kernel
theorem dX6_bring_58 : decode cX6_bring 58 = .ok (.getfield 120, 3) := by decide +kernel
theorem dX6_bring_61 : decode cX6_bring 61 = .ok (.iastore, 1) := by decide +kernel
theorem dX6_bring_62 : decode cX6_bring 62 = .ok (.aload_n 0, 1) := by decide +kernel
theorem dX6_bring_63 : decode cX6_bring 63 = .ok (.getfield 29, 3) := by decide +kernel
theorem dX6_bring_66 : decode cX6_bring 66 = .ok (.getfield 63, 3) := by decide +kernel
theorem dX6_bring_69 : decode cX6_bring 69 = .ok (.aload_n 0, 1) := by decide +kernel
theorem dX6_bring_70 : decode cX6_bring 70 = .ok (.getfield 46, 3) := by decide +kernel
theorem dX6_bring_73 : decode cX6_bring 73 = .ok (.iconst 0, 1) := by decide +kernel
theorem dX6_bring_74 : decode cX6_bring 74 = .ok (.iastore, 1) := by decide +kernel
theorem dX6_bring_75 : decode cX6_bring 75 = .ok (.aload_n 0, 1) := by decide +kernel
theorem dX6_bring_76 : decode cX6_bring 76 = .ok (.getfield 29, 3) := by decide +kernel
theorem dX6_bring_79 : decode cX6_bring 79 = .ok (.getfield 134, 3) := by decide +kernel
theorem dX6_bring_82 : decode cX6_bring 82 = .ok (.aload_n 0, 1) := by decide +kernel
theorem dX6_bring_83 : decode cX6_bring 83 = .ok (.getfield 46, 3) := by decide +kernel
theorem dX6_bring_86 : decode cX6_bring 86 = .ok (.iconst (-1), 1) := by decide +kernel
theorem dX6_bring_87 : decode cX6_bring 87 = .ok (.iastore, 1) := by decide +kernel
theorem dX6_bring_88 : decode cX6_bring 88 = .ok (.aload_n 0, 1) := by decide +kernel
theorem dX6_bring_89 : decode cX6_bring 89 = .ok (.getfield 29, 3) := by decide +kernel
theorem dX6_bring_92 : decode cX6_bring 92 = .ok (.getfield 137, 3) := by decide +kernel
theorem dX6_bring_95 : decode cX6_bring 95 = .ok (.aload_n 0, 1) := by decide +kernel
theorem dX6_bring_96 : decode cX6_bring 96 = .ok (.getfield 46, 3) := by decide +kernel
theorem dX6_bring_99 : decode cX6_bring 99 = .ok (.iconst 1, 1) := by decide +kernel
theorem dX6_bring_100 : decode cX6_bring 100 = .ok (.iastore, 1) := by decide +kernel
theorem dX6_bring_101 : decode cX6_bring 101 = .ok (.aload_n 0, 1) := by decide +kernel
theorem dX6_bring_102 : decode cX6_bring 102 = .ok (.getfield 29, 3) := by decide +kernel
theorem dX6_bring_105 : decode cX6_bring 105 = .ok (.getfield 113, 3) := by decide +kernel
theorem dX6_bring_108 : decode cX6_bring 108 = .ok (.aload_n 0, 1) := by decide +kernel
theorem dX6_bring_109 : decode cX6_bring 109 = .ok (.getfield 46, 3) := by decide +kernel
theorem dX6_bring_112 : decode cX6_bring 112 = .ok (.aload_n 0, 1) := by decide +kernel
theorem dX6_bring_113 : decode cX6_bring 113 = .ok (.getfield 29, 3) := by decide +kernel
theorem dX6_bring_116 : decode cX6_bring 116 = .ok (.iload_n 1, 1) := by decide +kernel
theorem dX6_bring_117 : decode cX6_bring 117 = .ok (.aload_n 0, 1) := by decide +kernel
theorem dX6_bring_118 : decode cX6_bring 118 = .ok (.getfield 46, 3) := by decide +kernel
theorem dX6_bring_121 : decode cX6_bring 121 = .ok (.iconst (-1), 1) := by decide +kernel
theorem dX6_bring_122 : decode cX6_bring 122 = .ok (.invokevirtual 140, 3) := by decide +kernel
theorem dX6_bring_125 : decode cX6_bring 125 = .ok (.iastore, 1) := by decide +kernel
theorem dX6_bring_126 : decode cX6_bring 126 = .ok (.iconst 0, 1) := by decide +kernel
theorem dX6_bring_127 : decode cX6_bring 127 = .ok (.istore_n 2, 1) := by decide +kernel
theorem dX6_bring_128 : decode cX6_bring 128 = .ok (.iload_n 2, 1) := by decide +kernel
theorem dX6_bring_129 : decode cX6_bring 129 = .ok (.aload_n 0, 1) := by decide +kernel
theorem dX6_bring_130 : decode cX6_bring 130 = .ok (.getfield 39, 3) := by decide +kernel
theorem dX6_bring_133 : decode cX6_bring 133 = .ok (.if_icmp .ge 32, 3) := by decide +kernel
theorem dX6_bring_136 : decode cX6_bring 136 = .ok (.aload_n 0, 1) := by decide +kernel
theorem dX6_bring_137 : decode cX6_bring 137 = .ok (.getfield 29, 3) := by decide +kernel
theorem dX6_bring_140 : decode cX6_bring 140 = .ok (.getfield 66, 3) := by decide +kernel
theorem dX6_bring_143 : decode cX6_bring 143 = .ok (.iload_n 2, 1) := by decide +kernel
theorem dX6_bring_144 : decode cX6_bring 144 = .ok (.iaload, 1) := by decide +kernel
theorem dX6_bring_145 : decode cX6_bring 145 = .ok (.iconst 3, 1) := by decide +kernel
theorem dX6_bring_146 : decode cX6_bring 146 = .ok (.if_icmp .ne 13, 3) := by decide +kernel
theorem dX6_bring_149 : decode cX6_bring 149 = .ok (.aload_n 0, 1) := by decide +kernel
theorem dX6_bring_150 : decode cX6_bring 150 = .ok (.getfield 29, 3) := by decide +kernel
theorem dX6_bring_153 : decode cX6_bring 153 = .ok (.getfield 66, 3) := by decide +kernel
theorem dX6_bring_156 : decode cX6_bring 156 = .ok (.iload_n 2, 1) := by decide +kernel
theorem dX6_bring_157 : decode cX6_bring 157 = .ok (.iconst 0, 1) := by decide +kernel
theorem dX6_bring_158 : decode cX6_bring 158 = .ok (.iastore, 1) := by decide +kernel
theorem dX6_bring_159 : decode cX6_bring 159 = .ok (.iinc 2 1, 3) := by decide +kernel
theorem dX6_bring_162 : decode cX6_bring 162 = .ok (.goto (-34), 3) := by decide +kernel
theorem dX6_bring_165 : decode cX6_bring 165 = .ok (.aload_n 0, 1) := by decide +kernel
theorem dX6_bring_166 : decode cX6_bring 166 = .ok (.dup, 1) := by decide +kernel
theorem dX6_bring_167 : decode cX6_bring 167 = .ok (.getfield 46, 3) := by decide +kernel
theorem dX6_bring_170 : decode cX6_bring 170 = .ok (.iconst 1, 1) := by decide +kernel
theorem dX6_bring_171 : decode cX6_bring 171 = .ok (.iadd, 1) := by decide +kernel
theorem dX6_bring_172 : decode cX6_bring 172 = .ok (.putfield 46, 3) := by decide +kernel
theorem dX6_bring_175 : decode cX6_bring 175 = .ok (.aload_n 0, 1) := by decide +kernel
theorem dX6_bring_176 : decode cX6_bring 176 = .ok (.getfield 46, 3) := by decide +kernel
theorem dX6_bring_179 : decode cX6_bring 179 = .ok (.iconst 1, 1) := by decide +kernel
theorem dX6_bring_180 : decode cX6_bring 180 = .ok (.isub, 1) := by decide +kernel
theorem dX6_bring_181 : decode cX6_bring 181 = .ok (.ireturn, 1) := by decide +kernel
theorem dX6_swap_0 : decode cX6_swap 0 = .ok (.aload_n 0, 1) := by decide +kernel
theorem dX6_swap_1 : decode cX6_swap 1 = .ok (.iconst 0, 1) := by decide +kernel
theorem dX6_swap_2 : decode cX6_swap 2 = .ok (.putfield 36, 3) := by decide +kernel
theorem dX6_swap_5 : decode cX6_swap 5 = .ok (.aload_n 0, 1) := by decide +kernel
theorem dX6_swap_6 : decode cX6_swap 6 = .ok (.iload_n 1, 1) := by decide +kernel
theorem dX6_swap_7 : decode cX6_swap 7 = .ok (.invokevirtual 130, 3) := by decide +kernel
theorem dX6_swap_10 : decode cX6_swap 10 = .ok (.ifCond .eq 11, 3) := by decide +kernel
theorem dX6_swap_13 : decode cX6_swap 13 = .ok (.aload_n 0, 1) := by decide +kernel
theorem dX6_swap_14 : decode cX6_swap 14 = .ok (.iload_n 2, 1) := by decide +kernel
theorem dX6_swap_15 : decode cX6_swap 15 = .ok (.invokevirtual 130, 3) := by decide +kernel
theorem dX6_swap_18 : decode cX6_swap 18 = .ok (.ifCond .ne 9, 3) := by decide +kernel
theorem dX6_swap_21 : decode cX6_swap 21 = .ok (.aload_n 0, 1) := by decide +kernel
theorem dX6_swap_22 : decode cX6_swap 22 = .ok (.iconst 1, 1) := by decide +kernel
theorem dX6_swap_23 : decode cX6_swap 23 = .ok (.invokevirtual 127, 3) := by decide +kernel
theorem dX6_swap_26 : decode cX6_swap 26 = .ok (.ireturn, 1) := by decide +kernel
theorem dX6_swap_27 : decode cX6_swap 27 = .ok (.iload_n 1, 1) := by decide +kernel
theorem dX6_swap_28 : decode cX6_swap 28 = .ok (.iload_n 2, 1) := by decide +kernel
theorem dX6_swap_29 : decode cX6_swap 29 = .ok (.if_icmp .ne 9, 3) := by decide +kernel
theorem dX6_swap_32 : decode cX6_swap 32 = .ok (.aload_n 0, 1) := by decide +kernel
theorem dX6_swap_33 : decode cX6_swap 33 = .ok (.iconst 2, 1) := by decide +kernel
theorem dX6_swap_34 : decode cX6_swap 34 = .ok (.invokevirtual 127, 3) := by decide +kernel
theorem dX6_swap_37 : decode cX6_swap 37 = .ok (.ireturn, 1) := by decide +kernel
theorem dX6_swap_38 : decode cX6_swap 38 = .ok (.iconst 0, 1) := by decide +kernel
theorem dX6_swap_39 : decode cX6_swap 39 = .ok (.istore_n 3, 1) := by decide +kernel
theorem dX6_swap_40 : decode cX6_swap 40 = .ok (.iload_n 3, 1) := by decide +kernel
theorem dX6_swap_41 : decode cX6_swap 41 = .ok (.bipush 8, 2) := by decide +kernel
theorem dX6_swap_43 : decode cX6_swap 43 = .ok (.if_icmp .ge 69, 3) := by decide +kernel
theorem dX6_swap_46 : decode cX6_swap 46 = .ok (.aload_n 0, 1) := by decide +kernel
theorem dX6_swap_47 : decode cX6_swap 47 = .ok (.getfield 29, 3) := by decide +kernel
theorem dX6_swap_50 : decode cX6_swap 50 = .ok (.getfield 144, 3) := by decide +kernel
theorem dX6_swap_53 : decode cX6_swap 53 = .ok (.bipush 8, 2) := by decide +kernel
theorem dX6_swap_55 : decode cX6_swap 55 = .ok (.iload_n 1, 1) := by decide +kernel
theorem dX6_swap_56 : decode cX6_swap 56 = .ok (.imul, 1) := by decide +kernel
theorem dX6_swap_57 : decode cX6_swap 57 = .ok (.iload_n 3, 1) := by decide +kernel
theorem dX6_swap_58 : decode cX6_swap 58 = .ok (.iadd, 1) := by decide +kernel
theorem dX6_swap_59 : decode cX6_swap 59 = .ok (.iaload, 1) := by decide +kernel
theorem dX6_swap_60 : decode cX6_swap 60 = .ok (.istore 4, 2) := by decide +kernel
theorem dX6_swap_62 : decode cX6_swap 62 = .ok (.aload_n 0, 1) := by decide +kernel
theorem dX6_swap_63 : decode cX6_swap 63 = .ok (.getfield 29, 3) := by decide +kernel
theorem dX6_swap_66 : decode cX6_swap 66 = .ok (.getfield 144, 3) := by decide +kernel
theorem dX6_swap_69 : decode cX6_swap 69 = .ok (.bipush 8, 2) := by decide +kernel
theorem dX6_swap_71 : decode cX6_swap 71 = .ok (.iload_n 1, 1) := by decide +kernel
theorem dX6_swap_72 : decode cX6_swap 72 = .ok (.imul, 1) := by decide +kernel
theorem dX6_swap_73 : decode cX6_swap 73 = .ok (.iload_n 3, 1) := by decide +kernel
theorem dX6_swap_74 : decode cX6_swap 74 = .ok (.iadd, 1) := by decide +kernel
theorem dX6_swap_75 : decode cX6_swap 75 = .ok (.aload_n 0, 1) := by decide +kernel
theorem dX6_swap_76 : decode cX6_swap 76 = .ok (.getfield 29, 3) := by decide +kernel
theorem dX6_swap_79 : decode cX6_swap 79 = .ok (.getfield 144, 3) := by decide +kernel
theorem dX6_swap_82 : decode cX6_swap 82 = .ok (.bipush 8, 2) := by decide +kernel
theorem dX6_swap_84 : decode cX6_swap 84 = .ok (.iload_n 2, 1) := by decide +kernel
theorem dX6_swap_85 : decode cX6_swap 85 = .ok (.imul, 1) := by decide +kernel
theorem dX6_swap_86 : decode cX6_swap 86 = .ok (.iload_n 3, 1) := by decide +kernel
theorem dX6_swap_87 : decode cX6_swap 87 = .ok (.iadd, 1) := by decide +kernel
theorem dX6_swap_88 : decode cX6_swap 88 = .ok (.iaload, 1) := by decide +kernel
theorem dX6_swap_89 : decode cX6_swap 89 = .ok (.iastore, 1) := by decide +kernel
theorem dX6_swap_90 : decode cX6_swap 90 = .ok (.aload_n 0, 1) := by decide +kernel
theorem dX6_swap_91 : decode cX6_swap 91 = .ok (.getfield 29, 3) := by decide +kernel
theorem dX6_swap_94 : decode cX6_swap 94 = .ok (.getfield 144, 3) := by decide +kernel
theorem dX6_swap_97 : decode cX6_swap 97 = .ok (.bipush 8, 2) := by decide +kernel
theorem dX6_swap_99 : decode cX6_swap 99 = .ok (.iload_n 2, 1) := by decide +kernel
theorem dX6_swap_100 : decode cX6_swap 100 = .ok (.imul, 1) := by decide +kernel
theorem dX6_swap_101 : decode cX6_swap 101 = .ok (.iload_n 3, 1) := by decide +kernel
theorem dX6_swap_102 : decode cX6_swap 102 = .ok (.iadd, 1) := by decide +kernel
theorem dX6_swap_103 : decode cX6_swap 103 = .ok (.iload 4, 2) := by decide +kernel
theorem dX6_swap_105 : decode cX6_swap 105 = .ok (.iastore, 1) := by decide +kernel
theorem dX6_swap_106 : decode cX6_swap 106 = .ok (.iinc 3 1, 3) := by decide +kernel
theorem dX6_swap_109 : decode cX6_swap 109 = .ok (.goto (-69), 3) := by decide +kernel
theorem dX6_swap_112 : decode cX6_swap 112 = .ok (.aload_n 0, 1) := by decide +kernel
theorem dX6_swap_113 : decode cX6_swap 113 = .ok (.getfield 29, 3) := by decide +kernel
theorem dX6_swap_116 : decode cX6_swap 116 = .ok (.getfield 49, 3) := by decide +kernel
theorem dX6_swap_119 : decode cX6_swap 119 = .ok (.iload_n 1, 1) := by decide +kernel
theorem dX6_swap_120 : decode cX6_swap 120 = .ok (.iaload, 1) := by decide +kernel
theorem dX6_swap_121 : decode cX6_swap 121 = .ok (.istore_n 3, 1) := by decide +kernel
theorem dX6_swap_122 : decode cX6_swap 122 = .ok (.aload_n 0, 1) := by decide +kernel
theorem dX6_swap_123 : decode cX6_swap 123 = .ok (.getfield 29, 3) := by decide +kernel
theorem dX6_swap_126 : decode cX6_swap 126 = .ok (.getfield 49, 3) := by decide +kernel
theorem dX6_swap_129 : decode cX6_swap 129 = .ok (.iload_n 1, 1) := by decide +kernel
theorem dX6_swap_130 : decode cX6_swap 130 = .ok (.aload_n 0, 1) := by decide +kernel
theorem dX6_swap_131 : decode cX6_swap 131 = .ok (.getfield 29, 3) := by decide +kernel
theorem dX6_swap_134 : decode cX6_swap 134 = .ok (.getfield 49, 3) := by decide +kernel
theorem dX6_swap_137 : decode cX6_swap 137 = .ok (.iload_n 2, 1) := by decide +kernel
theorem dX6_swap_138 : decode cX6_swap 138 = .ok (.iaload, 1) := by decide +kernel
theorem dX6_swap_139 : decode cX6_swap 139 = .ok (.iastore, 1) := by decide +kernel
theorem dX6_swap_140 : decode cX6_swap 140 = .ok (.aload_n 0, 1) := by decide +kernel
theorem dX6_swap_141 : decode cX6_swap 141 = .ok (.getfield 29, 3) := by decide +kernel
theorem dX6_swap_144 : decode cX6_swap 144 = .ok (.getfield 49, 3) := by decide +kernel
theorem dX6_swap_147 : decode cX6_swap 147 = .ok (.iload_n 2, 1) := by decide +kernel
theorem dX6_swap_148 : decode cX6_swap 148 = .ok (.iload_n 3, 1) := by decide +kernel
theorem dX6_swap_149 : decode cX6_swap 149 = .ok (.iastore, 1) := by decide +kernel
theorem dX6_swap_150 : decode cX6_swap 150 = .ok (.aload_n 0, 1) := by decide +kernel
theorem dX6_swap_151 : decode cX6_swap 151 = .ok (.getfield 29, 3) := by decide +kernel
theorem dX6_swap_154 : decode cX6_swap 154 = .ok (.getfield 49, 3) := by decide +kernel
theorem dX6_swap_157 : decode cX6_swap 157 = .ok (.iload_n 1, 1) := by decide +kernel
theorem dX6_swap_158 : decode cX6_swap 158 = .ok (.iaload, 1) := by decide +kernel
theorem dX6_swap_159 : decode cX6_swap 159 = .ok (.ireturn, 1) := by decide +kernel
theorem dX6_sleepers_0 : decode cX6_sleepers 0 = .ok (.iconst 0, 1) := by decide +kernel
theorem dX6_sleepers_1 : decode cX6_sleepers 1 = .ok (.istore_n 2, 1) := by decide +kernel
theorem dX6_sleepers_2 : decode cX6_sleepers 2 = .ok (.iconst 0, 1) := by decide +kernel
theorem dX6_sleepers_3 : decode cX6_sleepers 3 = .ok (.istore_n 3, 1) := by decide +kernel
theorem dX6_sleepers_4 : decode cX6_sleepers 4 = .ok (.iload_n 3, 1) := by decide +kernel
theorem dX6_sleepers_5 : decode cX6_sleepers 5 = .ok (.aload_n 0, 1) := by decide +kernel
theorem dX6_sleepers_6 : decode cX6_sleepers 6 = .ok (.getfield 39, 3) := by decide +kernel
theorem dX6_sleepers_9 : decode cX6_sleepers 9 = .ok (.if_icmp .ge 27, 3) := by decide +kernel
theorem dX6_sleepers_12 : decode cX6_sleepers 12 = .ok (.iload_n 2, 1) := by decide +kernel
theorem dX6_sleepers_13 : decode cX6_sleepers 13 = .ok (.aload_n 1, 1) := by decide +kernel
theorem dX6_sleepers_14 : decode cX6_sleepers 14 = .ok (.getfield 66, 3) := by decide +kernel
theorem dX6_sleepers_17 : decode cX6_sleepers 17 = .ok (.iload_n 3, 1) := by decide +kernel
theorem dX6_sleepers_18 : decode cX6_sleepers 18 = .ok (.iaload, 1) := by decide +kernel
theorem dX6_sleepers_19 : decode cX6_sleepers 19 = .ok (.iconst 3, 1) := by decide +kernel
theorem dX6_sleepers_20 : decode cX6_sleepers 20 = .ok (.if_icmp .ne 7, 3) := by decide +kernel
theorem dX6_sleepers_23 : decode cX6_sleepers 23 = .ok (.iconst 1, 1) := by decide +kernel
theorem dX6_sleepers_24 : decode cX6_sleepers 24 = .ok (.goto 4, 3) := by decide +kernel
theorem dX6_sleepers_27 : decode cX6_sleepers 27 = .ok (.iconst 0, 1) := by decide +kernel
theorem dX6_sleepers_28 : decode cX6_sleepers 28 = .ok (.iadd, 1) := by decide +kernel
theorem dX6_sleepers_29 : decode cX6_sleepers 29 = .ok (.istore_n 2, 1) := by decide +kernel
theorem dX6_sleepers_30 : decode cX6_sleepers 30 = .ok (.iinc 3 1, 3) := by decide +kernel
theorem dX6_sleepers_33 : decode cX6_sleepers 33 = .ok (.goto (-29), 3) := by decide +kernel
theorem dX6_sleepers_36 : decode cX6_sleepers 36 = .ok (.iload_n 2, 1) := by decide +kernel
theorem dX6_sleepers_37 : decode cX6_sleepers 37 = .ok (.ireturn, 1) := by decide +kernel
theorem dX6_wake_0 : decode cX6_wake 0 = .ok (.aload_n 0, 1) := by decide +kernel
theorem dX6_wake_1 : decode cX6_wake 1 = .ok (.iconst 0, 1) := by decide +kernel
theorem dX6_wake_2 : decode cX6_wake 2 = .ok (.putfield 36, 3) := by decide +kernel
theorem dX6_wake_5 : decode cX6_wake 5 = .ok (.aload_n 0, 1) := by decide +kernel
theorem dX6_wake_6 : decode cX6_wake 6 = .ok (.iload_n 1, 1) := by decide +kernel
theorem dX6_wake_7 : decode cX6_wake 7 = .ok (.invokevirtual 130, 3) := by decide +kernel
theorem dX6_wake_10 : decode cX6_wake 10 = .ok (.ifCond .ne 9, 3) := by decide +kernel
theorem dX6_wake_13 : decode cX6_wake 13 = .ok (.aload_n 0, 1) := by decide +kernel
theorem dX6_wake_14 : decode cX6_wake 14 = .ok (.iconst 1, 1) := by decide +kernel
theorem dX6_wake_15 : decode cX6_wake 15 = .ok (.invokevirtual 127, 3) := by decide +kernel
theorem dX6_wake_18 : decode cX6_wake 18 = .ok (.ireturn, 1) := by decide +kernel
theorem dX6_wake_19 : decode cX6_wake 19 = .ok (.aload_n 0, 1) := by decide +kernel
theorem dX6_wake_20 : decode cX6_wake 20 = .ok (.getfield 29, 3) := by decide +kernel
theorem dX6_wake_23 : decode cX6_wake 23 = .ok (.getfield 66, 3) := by decide +kernel
theorem dX6_wake_26 : decode cX6_wake 26 = .ok (.iload_n 1, 1) := by decide +kernel
theorem dX6_wake_27 : decode cX6_wake 27 = .ok (.iaload, 1) := by decide +kernel
theorem dX6_wake_28 : decode cX6_wake 28 = .ok (.iconst 3, 1) := by decide +kernel
theorem dX6_wake_29 : decode cX6_wake 29 = .ok (.if_icmp .eq 9, 3) := by decide +kernel
theorem dX6_wake_32 : decode cX6_wake 32 = .ok (.aload_n 0, 1) := by decide +kernel
theorem dX6_wake_33 : decode cX6_wake 33 = .ok (.iconst 2, 1) := by decide +kernel
theorem dX6_wake_34 : decode cX6_wake 34 = .ok (.invokevirtual 127, 3) := by decide +kernel
theorem dX6_wake_37 : decode cX6_wake 37 = .ok (.ireturn, 1) := by decide +kernel
theorem dX6_wake_38 : decode cX6_wake 38 = .ok (.aload_n 0, 1) := by decide +kernel
theorem dX6_wake_39 : decode cX6_wake 39 = .ok (.getfield 29, 3) := by decide +kernel
theorem dX6_wake_42 : decode cX6_wake 42 = .ok (.getfield 66, 3) := by decide +kernel
theorem dX6_wake_45 : decode cX6_wake 45 = .ok (.iload_n 1, 1) := by decide +kernel
theorem dX6_wake_46 : decode cX6_wake 46 = .ok (.iconst 0, 1) := by decide +kernel
theorem dX6_wake_47 : decode cX6_wake 47 = .ok (.iastore, 1) := by decide +kernel
theorem dX6_wake_48 : decode cX6_wake 48 = .ok (.aload_n 0, 1) := by decide +kernel
theorem dX6_wake_49 : decode cX6_wake 49 = .ok (.aload_n 0, 1) := by decide +kernel
theorem dX6_wake_50 : decode cX6_wake 50 = .ok (.getfield 29, 3) := by decide +kernel
theorem dX6_wake_53 : decode cX6_wake 53 = .ok (.invokevirtual 147, 3) := by decide +kernel
theorem dX6_wake_56 : decode cX6_wake 56 = .ok (.ireturn, 1) := by decide +kernel
theorem dX6_loadOf_0 : decode cX6_loadOf 0 = .ok (.aload_n 0, 1) := by decide +kernel
theorem dX6_loadOf_1 : decode cX6_loadOf 1 = .ok (.getfield 29, 3) := by decide +kernel
theorem dX6_loadOf_4 : decode cX6_loadOf 4 = .ok (.getfield 66, 3) := by decide +kernel
theorem dX6_loadOf_7 : decode cX6_loadOf 7 = .ok (.iload_n 1, 1) := by decide +kernel
theorem dX6_loadOf_8 : decode cX6_loadOf 8 = .ok (.iaload, 1) := by decide +kernel
theorem dX6_loadOf_9 : decode cX6_loadOf 9 = .ok (.iconst 1, 1) := by decide +kernel
theorem dX6_loadOf_10 : decode cX6_loadOf 10 = .ok (.if_icmp .eq 16, 3) := by decide +kernel
theorem dX6_loadOf_13 : decode cX6_loadOf 13 = .ok (.aload_n 0, 1) := by decide +kernel
theorem dX6_loadOf_14 : decode cX6_loadOf 14 = .ok (.getfield 29, 3) := by decide +kernel
theorem dX6_loadOf_17 : decode cX6_loadOf 17 = .ok (.getfield 66, 3) := by decide +kernel
theorem dX6_loadOf_20 : decode cX6_loadOf 20 = .ok (.iload_n 1, 1) := by decide +kernel
theorem dX6_loadOf_21 : decode cX6_loadOf 21 = .ok (.iaload, 1) := by decide +kernel
theorem dX6_loadOf_22 : decode cX6_loadOf 22 = .ok (.iconst 2, 1) := by decide +kernel
theorem dX6_loadOf_23 : decode cX6_loadOf 23 = .ok (.if_icmp .ne 23, 3) := by decide +kernel
theorem dX6_loadOf_26 : decode cX6_loadOf 26 = .ok (.aload_n 0, 1) := by decide +kernel
theorem dX6_loadOf_27 : decode cX6_loadOf 27 = .ok (.getfield 29, 3) := by decide +kernel
theorem dX6_loadOf_30 : decode cX6_loadOf 30 = .ok (.getfield 150, 3) := by decide +kernel
theorem dX6_loadOf_33 : decode cX6_loadOf 33 = .ok (.aload_n 0, 1) := by decide +kernel
theorem dX6_loadOf_34 : decode cX6_loadOf 34 = .ok (.getfield 29, 3) := by decide +kernel
theorem dX6_loadOf_37 : decode cX6_loadOf 37 = .ok (.getfield 75, 3) := by decide +kernel
theorem dX6_loadOf_40 : decode cX6_loadOf 40 = .ok (.iload_n 1, 1) := by decide +kernel
theorem dX6_loadOf_41 : decode cX6_loadOf 41 = .ok (.iaload, 1) := by decide +kernel
theorem dX6_loadOf_42 : decode cX6_loadOf 42 = .ok (.iaload, 1) := by decide +kernel
theorem dX6_loadOf_43 : decode cX6_loadOf 43 = .ok (.goto 4, 3) := by decide +kernel
theorem dX6_loadOf_46 : decode cX6_loadOf 46 = .ok (.iconst (-1), 1) := by decide +kernel
theorem dX6_loadOf_47 : decode cX6_loadOf 47 = .ok (.ireturn, 1) := by decide +kernel
theorem dX6_ladTold_0 : decode cX6_ladTold 0 = .ok (.iload_n 2, 1) := by decide +kernel
theorem dX6_ladTold_1 : decode cX6_ladTold 1 = .ok (.tableswitch 146 0 7 #[47, 54, 61, 71, 81, 116, 126, 136], 47) := by decide +kernel
theorem dX6_ladTold_48 : decode cX6_ladTold 48 = .ok (.aload_n 0, 1) := by decide +kernel
theorem dX6_ladTold_49 : decode cX6_ladTold 49 = .ok (.getfield 9, 3) := by decide +kernel
theorem dX6_ladTold_52 : decode cX6_ladTold 52 = .ok (.iload_n 1, 1) := by decide +kernel
theorem dX6_ladTold_53 : decode cX6_ladTold 53 = .ok (.iaload, 1) := by decide +kernel
theorem dX6_ladTold_54 : decode cX6_ladTold 54 = .ok (.ireturn, 1) := by decide +kernel
theorem dX6_ladTold_55 : decode cX6_ladTold 55 = .ok (.aload_n 0, 1) := by decide +kernel
theorem dX6_ladTold_56 : decode cX6_ladTold 56 = .ok (.getfield 13, 3) := by decide +kernel
theorem dX6_ladTold_59 : decode cX6_ladTold 59 = .ok (.iload_n 1, 1) := by decide +kernel
theorem dX6_ladTold_60 : decode cX6_ladTold 60 = .ok (.iaload, 1) := by decide +kernel
theorem dX6_ladTold_61 : decode cX6_ladTold 61 = .ok (.ireturn, 1) := by decide +kernel
theorem dX6_ladTold_62 : decode cX6_ladTold 62 = .ok (.aload_n 0, 1) := by decide +kernel
theorem dX6_ladTold_63 : decode cX6_ladTold 63 = .ok (.getfield 29, 3) := by decide +kernel
theorem dX6_ladTold_66 : decode cX6_ladTold 66 = .ok (.getfield 49, 3) := by decide +kernel
theorem dX6_ladTold_69 : decode cX6_ladTold 69 = .ok (.iload_n 1, 1) := by decide +kernel
theorem dX6_ladTold_70 : decode cX6_ladTold 70 = .ok (.iaload, 1) := by decide +kernel
theorem dX6_ladTold_71 : decode cX6_ladTold 71 = .ok (.ireturn, 1) := by decide +kernel
theorem dX6_ladTold_72 : decode cX6_ladTold 72 = .ok (.aload_n 0, 1) := by decide +kernel
theorem dX6_ladTold_73 : decode cX6_ladTold 73 = .ok (.getfield 29, 3) := by decide +kernel
theorem dX6_ladTold_76 : decode cX6_ladTold 76 = .ok (.getfield 66, 3) := by decide +kernel
theorem dX6_ladTold_79 : decode cX6_ladTold 79 = .ok (.iload_n 1, 1) := by decide +kernel
theorem dX6_ladTold_80 : decode cX6_ladTold 80 = .ok (.iaload, 1) := by decide +kernel
theorem dX6_ladTold_81 : decode cX6_ladTold 81 = .ok (.ireturn, 1) := by decide +kernel
theorem dX6_ladTold_82 : decode cX6_ladTold 82 = .ok (.aload_n 0, 1) := by decide +kernel
theorem dX6_ladTold_83 : decode cX6_ladTold 83 = .ok (.getfield 29, 3) := by decide +kernel
theorem dX6_ladTold_86 : decode cX6_ladTold 86 = .ok (.getfield 66, 3) := by decide +kernel
theorem dX6_ladTold_89 : decode cX6_ladTold 89 = .ok (.iload_n 1, 1) := by decide +kernel
theorem dX6_ladTold_90 : decode cX6_ladTold 90 = .ok (.iaload, 1) := by decide +kernel
theorem dX6_ladTold_91 : decode cX6_ladTold 91 = .ok (.iconst 1, 1) := by decide +kernel
theorem dX6_ladTold_92 : decode cX6_ladTold 92 = .ok (.if_icmp .ne 23, 3) := by decide +kernel
theorem dX6_ladTold_95 : decode cX6_ladTold 95 = .ok (.aload_n 0, 1) := by decide +kernel
theorem dX6_ladTold_96 : decode cX6_ladTold 96 = .ok (.getfield 29, 3) := by decide +kernel
theorem dX6_ladTold_99 : decode cX6_ladTold 99 = .ok (.getfield 88, 3) := by decide +kernel
theorem dX6_ladTold_102 : decode cX6_ladTold 102 = .ok (.aload_n 0, 1) := by decide +kernel
theorem dX6_ladTold_103 : decode cX6_ladTold 103 = .ok (.getfield 29, 3) := by decide +kernel
theorem dX6_ladTold_106 : decode cX6_ladTold 106 = .ok (.getfield 75, 3) := by decide +kernel
theorem dX6_ladTold_109 : decode cX6_ladTold 109 = .ok (.iload_n 1, 1) := by decide +kernel
theorem dX6_ladTold_110 : decode cX6_ladTold 110 = .ok (.iaload, 1) := by decide +kernel
theorem dX6_ladTold_111 : decode cX6_ladTold 111 = .ok (.iaload, 1) := by decide +kernel
theorem dX6_ladTold_112 : decode cX6_ladTold 112 = .ok (.goto 4, 3) := by decide +kernel
theorem dX6_ladTold_115 : decode cX6_ladTold 115 = .ok (.iconst 0, 1) := by decide +kernel
theorem dX6_ladTold_116 : decode cX6_ladTold 116 = .ok (.ireturn, 1) := by decide +kernel
theorem dX6_ladTold_117 : decode cX6_ladTold 117 = .ok (.aload_n 0, 1) := by decide +kernel
theorem dX6_ladTold_118 : decode cX6_ladTold 118 = .ok (.getfield 29, 3) := by decide +kernel
theorem dX6_ladTold_121 : decode cX6_ladTold 121 = .ok (.getfield 153, 3) := by decide +kernel
theorem dX6_ladTold_124 : decode cX6_ladTold 124 = .ok (.iload_n 1, 1) := by decide +kernel
theorem dX6_ladTold_125 : decode cX6_ladTold 125 = .ok (.iaload, 1) := by decide +kernel
theorem dX6_ladTold_126 : decode cX6_ladTold 126 = .ok (.ireturn, 1) := by decide +kernel
theorem dX6_ladTold_127 : decode cX6_ladTold 127 = .ok (.aload_n 0, 1) := by decide +kernel
theorem dX6_ladTold_128 : decode cX6_ladTold 128 = .ok (.getfield 29, 3) := by decide +kernel
theorem dX6_ladTold_131 : decode cX6_ladTold 131 = .ok (.getfield 156, 3) := by decide +kernel
theorem dX6_ladTold_134 : decode cX6_ladTold 134 = .ok (.iload_n 1, 1) := by decide +kernel
theorem dX6_ladTold_135 : decode cX6_ladTold 135 = .ok (.iaload, 1) := by decide +kernel
theorem dX6_ladTold_136 : decode cX6_ladTold 136 = .ok (.ireturn, 1) := by decide +kernel
theorem dX6_ladTold_137 : decode cX6_ladTold 137 = .ok (.aload_n 0, 1) := by decide +kernel
theorem dX6_ladTold_138 : decode cX6_ladTold 138 = .ok (.getfield 29, 3) := by decide +kernel
theorem dX6_ladTold_141 : decode cX6_ladTold 141 = .ok (.getfield 159, 3) := by decide +kernel
theorem dX6_ladTold_144 : decode cX6_ladTold 144 = .ok (.iload_n 1, 1) := by decide +kernel
theorem dX6_ladTold_145 : decode cX6_ladTold 145 = .ok (.iaload, 1) := by decide +kernel
theorem dX6_ladTold_146 : decode cX6_ladTold 146 = .ok (.ireturn, 1) := by decide +kernel
theorem dX6_ladTold_147 : decode cX6_ladTold 147 = .ok (.aload_n 0, 1) := by decide +kernel
theorem dX6_ladTold_148 : decode cX6_ladTold 148 = .ok (.iload_n 1, 1) := by decide +kernel
theorem dX6_ladTold_149 : decode cX6_ladTold 149 = .ok (.invokevirtual 162, 3) := by decide +kernel
theorem dX6_ladTold_152 : decode cX6_ladTold 152 = .ok (.ireturn, 1) := by decide +kernel
theorem dX6_lad_0 : decode cX6_lad 0 = .ok (.aload_n 0, 1) := by decide +kernel
theorem dX6_lad_1 : decode cX6_lad 1 = .ok (.iconst 0, 1) := by decide +kernel
theorem dX6_lad_2 : decode cX6_lad 2 = .ok (.putfield 36, 3) := by decide +kernel
theorem dX6_lad_5 : decode cX6_lad 5 = .ok (.aload_n 0, 1) := by decide +kernel
theorem dX6_lad_6 : decode cX6_lad 6 = .ok (.iload_n 1, 1) := by decide +kernel
theorem dX6_lad_7 : decode cX6_lad 7 = .ok (.invokevirtual 130, 3) := by decide +kernel
theorem dX6_lad_10 : decode cX6_lad 10 = .ok (.ifCond .eq 22, 3) := by decide +kernel
theorem dX6_lad_13 : decode cX6_lad 13 = .ok (.iload_n 2, 1) := by decide +kernel
theorem dX6_lad_14 : decode cX6_lad 14 = .ok (.iconst 0, 1) := by decide +kernel
theorem dX6_lad_15 : decode cX6_lad 15 = .ok (.bipush 8, 2) := by decide +kernel
theorem dX6_lad_17 : decode cX6_lad 17 = .ok (.invokestatic 42, 3) := by decide +kernel
theorem dX6_lad_20 : decode cX6_lad 20 = .ok (.ifCond .eq 12, 3) := by decide +kernel
theorem dX6_lad_23 : decode cX6_lad 23 = .ok (.aload_n 0, 1) := by decide +kernel
theorem dX6_lad_24 : decode cX6_lad 24 = .ok (.iload_n 1, 1) := by decide +kernel
theorem dX6_lad_25 : decode cX6_lad 25 = .ok (.iload_n 2, 1) := by decide +kernel
theorem dX6_lad_26 : decode cX6_lad 26 = .ok (.invokevirtual 165, 3) := by decide +kernel
theorem dX6_lad_29 : decode cX6_lad 29 = .ok (.goto 8, 3) := by decide +kernel
theorem dX6_lad_32 : decode cX6_lad 32 = .ok (.aload_n 0, 1) := by decide +kernel
theorem dX6_lad_33 : decode cX6_lad 33 = .ok (.iconst 1, 1) := by decide +kernel
theorem dX6_lad_34 : decode cX6_lad 34 = .ok (.invokevirtual 127, 3) := by decide +kernel
theorem dX6_lad_37 : decode cX6_lad 37 = .ok (.ireturn, 1) := by decide +kernel
theorem dX6_cart_0 : decode cX6_cart 0 = .ok (.aload_n 0, 1) := by decide +kernel
theorem dX6_cart_1 : decode cX6_cart 1 = .ok (.iconst 0, 1) := by decide +kernel
theorem dX6_cart_2 : decode cX6_cart 2 = .ok (.putfield 36, 3) := by decide +kernel
theorem dX6_cart_5 : decode cX6_cart 5 = .ok (.aload_n 0, 1) := by decide +kernel
theorem dX6_cart_6 : decode cX6_cart 6 = .ok (.iload_n 1, 1) := by decide +kernel
theorem dX6_cart_7 : decode cX6_cart 7 = .ok (.invokevirtual 130, 3) := by decide +kernel
theorem dX6_cart_10 : decode cX6_cart 10 = .ok (.ifCond .eq 47, 3) := by decide +kernel
theorem dX6_cart_13 : decode cX6_cart 13 = .ok (.iload_n 2, 1) := by decide +kernel
theorem dX6_cart_14 : decode cX6_cart 14 = .ok (.iconst 0, 1) := by decide +kernel
theorem dX6_cart_15 : decode cX6_cart 15 = .ok (.aload_n 0, 1) := by decide +kernel
theorem dX6_cart_16 : decode cX6_cart 16 = .ok (.getfield 29, 3) := by decide +kernel
theorem dX6_cart_19 : decode cX6_cart 19 = .ok (.getfield 49, 3) := by decide +kernel
theorem dX6_cart_22 : decode cX6_cart 22 = .ok (.iload_n 1, 1) := by decide +kernel
theorem dX6_cart_23 : decode cX6_cart 23 = .ok (.iaload, 1) := by decide +kernel
theorem dX6_cart_24 : decode cX6_cart 24 = .ok (.iconst 1, 1) := by decide +kernel
theorem dX6_cart_25 : decode cX6_cart 25 = .ok (.isub, 1) := by decide +kernel
theorem dX6_cart_26 : decode cX6_cart 26 = .ok (.invokestatic 42, 3) := by decide +kernel
theorem dX6_cart_29 : decode cX6_cart 29 = .ok (.ifCond .eq 28, 3) := by decide +kernel
theorem dX6_cart_32 : decode cX6_cart 32 = .ok (.aload_n 0, 1) := by decide +kernel
theorem dX6_cart_33 : decode cX6_cart 33 = .ok (.getfield 29, 3) := by decide +kernel
theorem dX6_cart_36 : decode cX6_cart 36 = .ok (.getfield 52, 3) := by decide +kernel
theorem dX6_cart_39 : decode cX6_cart 39 = .ok (.aload_n 0, 1) := by decide +kernel
theorem dX6_cart_40 : decode cX6_cart 40 = .ok (.getfield 29, 3) := by decide +kernel
theorem dX6_cart_43 : decode cX6_cart 43 = .ok (.getfield 144, 3) := by decide +kernel
theorem dX6_cart_46 : decode cX6_cart 46 = .ok (.bipush 8, 2) := by decide +kernel
theorem dX6_cart_48 : decode cX6_cart 48 = .ok (.iload_n 1, 1) := by decide +kernel
theorem dX6_cart_49 : decode cX6_cart 49 = .ok (.imul, 1) := by decide +kernel
theorem dX6_cart_50 : decode cX6_cart 50 = .ok (.iload_n 2, 1) := by decide +kernel
theorem dX6_cart_51 : decode cX6_cart 51 = .ok (.iadd, 1) := by decide +kernel
theorem dX6_cart_52 : decode cX6_cart 52 = .ok (.iaload, 1) := by decide +kernel
theorem dX6_cart_53 : decode cX6_cart 53 = .ok (.iaload, 1) := by decide +kernel
theorem dX6_cart_54 : decode cX6_cart 54 = .ok (.goto 8, 3) := by decide +kernel
theorem dX6_cart_57 : decode cX6_cart 57 = .ok (.aload_n 0, 1) := by decide +kernel
theorem dX6_cart_58 : decode cX6_cart 58 = .ok (.iconst 1, 1) := by decide +kernel
theorem dX6_cart_59 : decode cX6_cart 59 = .ok (.invokevirtual 127, 3) := by decide +kernel
theorem dX6_cart_62 : decode cX6_cart 62 = .ok (.ireturn, 1) := by decide +kernel
theorem dX6_loadTold_0 : decode cX6_loadTold 0 = .ok (.iload_n 2, 1) := by decide +kernel
theorem dX6_loadTold_1 : decode cX6_loadTold 1 = .ok (.tableswitch 93 0 5 #[39, 46, 56, 66, 76, 83], 39) := by decide +kernel
theorem dX6_loadTold_40 : decode cX6_loadTold 40 = .ok (.aload_n 0, 1) := by decide +kernel
theorem dX6_loadTold_41 : decode cX6_loadTold 41 = .ok (.getfield 16, 3) := by decide +kernel
theorem dX6_loadTold_44 : decode cX6_loadTold 44 = .ok (.iload_n 1, 1) := by decide +kernel
theorem dX6_loadTold_45 : decode cX6_loadTold 45 = .ok (.iaload, 1) := by decide +kernel
theorem dX6_loadTold_46 : decode cX6_loadTold 46 = .ok (.ireturn, 1) := by decide +kernel
theorem dX6_loadTold_47 : decode cX6_loadTold 47 = .ok (.aload_n 0, 1) := by decide +kernel
theorem dX6_loadTold_48 : decode cX6_loadTold 48 = .ok (.getfield 29, 3) := by decide +kernel
theorem dX6_loadTold_51 : decode cX6_loadTold 51 = .ok (.getfield 63, 3) := by decide +kernel
theorem dX6_loadTold_54 : decode cX6_loadTold 54 = .ok (.iload_n 1, 1) := by decide +kernel
theorem dX6_loadTold_55 : decode cX6_loadTold 55 = .ok (.iaload, 1) := by decide +kernel
theorem dX6_loadTold_56 : decode cX6_loadTold 56 = .ok (.ireturn, 1) := by decide +kernel
theorem dX6_loadTold_57 : decode cX6_loadTold 57 = .ok (.aload_n 0, 1) := by decide +kernel
theorem dX6_loadTold_58 : decode cX6_loadTold 58 = .ok (.getfield 29, 3) := by decide +kernel
theorem dX6_loadTold_61 : decode cX6_loadTold 61 = .ok (.getfield 137, 3) := by decide +kernel
theorem dX6_loadTold_64 : decode cX6_loadTold 64 = .ok (.iload_n 1, 1) := by decide +kernel
theorem dX6_loadTold_65 : decode cX6_loadTold 65 = .ok (.iaload, 1) := by decide +kernel
theorem dX6_loadTold_66 : decode cX6_loadTold 66 = .ok (.ireturn, 1) := by decide +kernel
theorem dX6_loadTold_67 : decode cX6_loadTold 67 = .ok (.aload_n 0, 1) := by decide +kernel
theorem dX6_loadTold_68 : decode cX6_loadTold 68 = .ok (.getfield 29, 3) := by decide +kernel
theorem dX6_loadTold_71 : decode cX6_loadTold 71 = .ok (.getfield 169, 3) := by decide +kernel
theorem dX6_loadTold_74 : decode cX6_loadTold 74 = .ok (.iload_n 1, 1) := by decide +kernel
theorem dX6_loadTold_75 : decode cX6_loadTold 75 = .ok (.iaload, 1) := by decide +kernel
theorem dX6_loadTold_76 : decode cX6_loadTold 76 = .ok (.ireturn, 1) := by decide +kernel
theorem dX6_loadTold_77 : decode cX6_loadTold 77 = .ok (.aload_n 0, 1) := by decide +kernel
theorem dX6_loadTold_78 : decode cX6_loadTold 78 = .ok (.getfield 19, 3) := by decide +kernel
theorem dX6_loadTold_81 : decode cX6_loadTold 81 = .ok (.iload_n 1, 1) := by decide +kernel
theorem dX6_loadTold_82 : decode cX6_loadTold 82 = .ok (.iaload, 1) := by decide +kernel
theorem dX6_loadTold_83 : decode cX6_loadTold 83 = .ok (.ireturn, 1) := by decide +kernel
theorem dX6_loadTold_84 : decode cX6_loadTold 84 = .ok (.aload_n 0, 1) := by decide +kernel
theorem dX6_loadTold_85 : decode cX6_loadTold 85 = .ok (.getfield 29, 3) := by decide +kernel
theorem dX6_loadTold_88 : decode cX6_loadTold 88 = .ok (.getfield 134, 3) := by decide +kernel
theorem dX6_loadTold_91 : decode cX6_loadTold 91 = .ok (.iload_n 1, 1) := by decide +kernel
theorem dX6_loadTold_92 : decode cX6_loadTold 92 = .ok (.iaload, 1) := by decide +kernel
theorem dX6_loadTold_93 : decode cX6_loadTold 93 = .ok (.ireturn, 1) := by decide +kernel
theorem dX6_loadTold_94 : decode cX6_loadTold 94 = .ok (.aload_n 0, 1) := by decide +kernel
theorem dX6_loadTold_95 : decode cX6_loadTold 95 = .ok (.getfield 29, 3) := by decide +kernel
theorem dX6_loadTold_98 : decode cX6_loadTold 98 = .ok (.getfield 172, 3) := by decide +kernel
theorem dX6_loadTold_101 : decode cX6_loadTold 101 = .ok (.iload_n 1, 1) := by decide +kernel
theorem dX6_loadTold_102 : decode cX6_loadTold 102 = .ok (.iaload, 1) := by decide +kernel
theorem dX6_loadTold_103 : decode cX6_loadTold 103 = .ok (.ireturn, 1) := by decide +kernel
theorem dX6_load_0 : decode cX6_load 0 = .ok (.aload_n 0, 1) := by decide +kernel
theorem dX6_load_1 : decode cX6_load 1 = .ok (.iconst 0, 1) := by decide +kernel
theorem dX6_load_2 : decode cX6_load 2 = .ok (.putfield 36, 3) := by decide +kernel
theorem dX6_load_5 : decode cX6_load 5 = .ok (.aload_n 0, 1) := by decide +kernel
theorem dX6_load_6 : decode cX6_load 6 = .ok (.iload_n 1, 1) := by decide +kernel
theorem dX6_load_7 : decode cX6_load 7 = .ok (.invokevirtual 175, 3) := by decide +kernel
theorem dX6_load_10 : decode cX6_load 10 = .ok (.ifCond .eq 22, 3) := by decide +kernel
theorem dX6_load_13 : decode cX6_load 13 = .ok (.iload_n 2, 1) := by decide +kernel
theorem dX6_load_14 : decode cX6_load 14 = .ok (.iconst 0, 1) := by decide +kernel
theorem dX6_load_15 : decode cX6_load 15 = .ok (.bipush 6, 2) := by decide +kernel
theorem dX6_load_17 : decode cX6_load 17 = .ok (.invokestatic 42, 3) := by decide +kernel
theorem dX6_load_20 : decode cX6_load 20 = .ok (.ifCond .eq 12, 3) := by decide +kernel
theorem dX6_load_23 : decode cX6_load 23 = .ok (.aload_n 0, 1) := by decide +kernel
theorem dX6_load_24 : decode cX6_load 24 = .ok (.iload_n 1, 1) := by decide +kernel
theorem dX6_load_25 : decode cX6_load 25 = .ok (.iload_n 2, 1) := by decide +kernel
theorem dX6_load_26 : decode cX6_load 26 = .ok (.invokevirtual 178, 3) := by decide +kernel
theorem dX6_load_29 : decode cX6_load 29 = .ok (.goto 8, 3) := by decide +kernel
theorem dX6_load_32 : decode cX6_load 32 = .ok (.aload_n 0, 1) := by decide +kernel
theorem dX6_load_33 : decode cX6_load 33 = .ok (.iconst 1, 1) := by decide +kernel
theorem dX6_load_34 : decode cX6_load 34 = .ok (.invokevirtual 127, 3) := by decide +kernel
theorem dX6_load_37 : decode cX6_load 37 = .ok (.ireturn, 1) := by decide +kernel
theorem dX6_loadsThat_0 : decode cX6_loadsThat 0 = .ok (.iconst 0, 1) := by decide +kernel
theorem dX6_loadsThat_1 : decode cX6_loadsThat 1 = .ok (.istore_n 3, 1) := by decide +kernel
theorem dX6_loadsThat_2 : decode cX6_loadsThat 2 = .ok (.iconst 0, 1) := by decide +kernel
theorem dX6_loadsThat_3 : decode cX6_loadsThat 3 = .ok (.istore 4, 2) := by decide +kernel
theorem dX6_loadsThat_5 : decode cX6_loadsThat 5 = .ok (.iload 4, 2) := by decide +kernel
theorem dX6_loadsThat_7 : decode cX6_loadsThat 7 = .ok (.aload_n 0, 1) := by decide +kernel
theorem dX6_loadsThat_8 : decode cX6_loadsThat 8 = .ok (.getfield 46, 3) := by decide +kernel
theorem dX6_loadsThat_11 : decode cX6_loadsThat 11 = .ok (.if_icmp .ge 28, 3) := by decide +kernel
theorem dX6_loadsThat_14 : decode cX6_loadsThat 14 = .ok (.iload_n 3, 1) := by decide +kernel
theorem dX6_loadsThat_15 : decode cX6_loadsThat 15 = .ok (.aload_n 1, 1) := by decide +kernel
theorem dX6_loadsThat_16 : decode cX6_loadsThat 16 = .ok (.getfield 63, 3) := by decide +kernel
theorem dX6_loadsThat_19 : decode cX6_loadsThat 19 = .ok (.iload 4, 2) := by decide +kernel
theorem dX6_loadsThat_21 : decode cX6_loadsThat 21 = .ok (.iaload, 1) := by decide +kernel
theorem dX6_loadsThat_22 : decode cX6_loadsThat 22 = .ok (.iload_n 2, 1) := by decide +kernel
theorem dX6_loadsThat_23 : decode cX6_loadsThat 23 = .ok (.if_icmp .ne 7, 3) := by decide +kernel
theorem dX6_loadsThat_26 : decode cX6_loadsThat 26 = .ok (.iconst 1, 1) := by decide +kernel
theorem dX6_loadsThat_27 : decode cX6_loadsThat 27 = .ok (.goto 4, 3) := by decide +kernel
theorem dX6_loadsThat_30 : decode cX6_loadsThat 30 = .ok (.iconst 0, 1) := by decide +kernel
theorem dX6_loadsThat_31 : decode cX6_loadsThat 31 = .ok (.iadd, 1) := by decide +kernel
theorem dX6_loadsThat_32 : decode cX6_loadsThat 32 = .ok (.istore_n 3, 1) := by decide +kernel
theorem dX6_loadsThat_33 : decode cX6_loadsThat 33 = .ok (.iinc 4 1, 3) := by decide +kernel
theorem dX6_loadsThat_36 : decode cX6_loadsThat 36 = .ok (.goto (-31), 3) := by decide +kernel
theorem dX6_loadsThat_39 : decode cX6_loadsThat 39 = .ok (.iload_n 3, 1) := by decide +kernel
theorem dX6_loadsThat_40 : decode cX6_loadsThat 40 = .ok (.ireturn, 1) := by decide +kernel
theorem dX6_sumOf_0 : decode cX6_sumOf 0 = .ok (.iconst 0, 1) := by decide +kernel
theorem dX6_sumOf_1 : decode cX6_sumOf 1 = .ok (.istore_n 2, 1) := by decide +kernel
theorem dX6_sumOf_2 : decode cX6_sumOf 2 = .ok (.iconst 0, 1) := by decide +kernel
theorem dX6_sumOf_3 : decode cX6_sumOf 3 = .ok (.istore_n 3, 1) := by decide +kernel
theorem dX6_sumOf_4 : decode cX6_sumOf 4 = .ok (.iload_n 3, 1) := by decide +kernel
theorem dX6_sumOf_5 : decode cX6_sumOf 5 = .ok (.aload_n 0, 1) := by decide +kernel
theorem dX6_sumOf_6 : decode cX6_sumOf 6 = .ok (.getfield 39, 3) := by decide +kernel
theorem dX6_sumOf_9 : decode cX6_sumOf 9 = .ok (.if_icmp .ge 15, 3) := by decide +kernel
theorem dX6_sumOf_12 : decode cX6_sumOf 12 = .ok (.iload_n 2, 1) := by decide +kernel
theorem dX6_sumOf_13 : decode cX6_sumOf 13 = .ok (.aload_n 1, 1) := by decide +kernel
theorem dX6_sumOf_14 : decode cX6_sumOf 14 = .ok (.iload_n 3, 1) := by decide +kernel
theorem dX6_sumOf_15 : decode cX6_sumOf 15 = .ok (.iaload, 1) := by decide +kernel
theorem dX6_sumOf_16 : decode cX6_sumOf 16 = .ok (.iadd, 1) := by decide +kernel
theorem dX6_sumOf_17 : decode cX6_sumOf 17 = .ok (.istore_n 2, 1) := by decide +kernel
theorem dX6_sumOf_18 : decode cX6_sumOf 18 = .ok (.iinc 3 1, 3) := by decide +kernel
theorem dX6_sumOf_21 : decode cX6_sumOf 21 = .ok (.goto (-17), 3) := by decide +kernel
theorem dX6_sumOf_24 : decode cX6_sumOf 24 = .ok (.iload_n 2, 1) := by decide +kernel
theorem dX6_sumOf_25 : decode cX6_sumOf 25 = .ok (.ireturn, 1) := by decide +kernel
theorem dX6_counted_0 : decode cX6_counted 0 = .ok (.iload_n 2, 1) := by decide +kernel
theorem dX6_counted_1 : decode cX6_counted 1 = .ok (.tableswitch 136 0 11 #[63, 68, 73, 78, 85, 92, 101, 107, 112, 117, 122, 131], 63) := by decide +kernel
theorem dX6_counted_64 : decode cX6_counted 64 = .ok (.aload_n 1, 1) := by decide +kernel
theorem dX6_counted_65 : decode cX6_counted 65 = .ok (.getfield 120, 3) := by decide +kernel
theorem dX6_counted_68 : decode cX6_counted 68 = .ok (.ireturn, 1) := by decide +kernel
theorem dX6_counted_69 : decode cX6_counted 69 = .ok (.aload_n 0, 1) := by decide +kernel
theorem dX6_counted_70 : decode cX6_counted 70 = .ok (.getfield 39, 3) := by decide +kernel
theorem dX6_counted_73 : decode cX6_counted 73 = .ok (.ireturn, 1) := by decide +kernel
theorem dX6_counted_74 : decode cX6_counted 74 = .ok (.aload_n 0, 1) := by decide +kernel
theorem dX6_counted_75 : decode cX6_counted 75 = .ok (.getfield 46, 3) := by decide +kernel
theorem dX6_counted_78 : decode cX6_counted 78 = .ok (.ireturn, 1) := by decide +kernel
theorem dX6_counted_79 : decode cX6_counted 79 = .ok (.aload_n 0, 1) := by decide +kernel
theorem dX6_counted_80 : decode cX6_counted 80 = .ok (.aload_n 1, 1) := by decide +kernel
theorem dX6_counted_81 : decode cX6_counted 81 = .ok (.iconst 2, 1) := by decide +kernel
theorem dX6_counted_82 : decode cX6_counted 82 = .ok (.invokevirtual 181, 3) := by decide +kernel
theorem dX6_counted_85 : decode cX6_counted 85 = .ok (.ireturn, 1) := by decide +kernel
theorem dX6_counted_86 : decode cX6_counted 86 = .ok (.aload_n 0, 1) := by decide +kernel
theorem dX6_counted_87 : decode cX6_counted 87 = .ok (.aload_n 1, 1) := by decide +kernel
theorem dX6_counted_88 : decode cX6_counted 88 = .ok (.iconst 0, 1) := by decide +kernel
theorem dX6_counted_89 : decode cX6_counted 89 = .ok (.invokevirtual 181, 3) := by decide +kernel
theorem dX6_counted_92 : decode cX6_counted 92 = .ok (.ireturn, 1) := by decide +kernel
theorem dX6_counted_93 : decode cX6_counted 93 = .ok (.aload_n 0, 1) := by decide +kernel
theorem dX6_counted_94 : decode cX6_counted 94 = .ok (.aload_n 1, 1) := by decide +kernel
theorem dX6_counted_95 : decode cX6_counted 95 = .ok (.getfield 49, 3) := by decide +kernel
theorem dX6_counted_98 : decode cX6_counted 98 = .ok (.invokevirtual 184, 3) := by decide +kernel
theorem dX6_counted_101 : decode cX6_counted 101 = .ok (.ireturn, 1) := by decide +kernel
theorem dX6_counted_102 : decode cX6_counted 102 = .ok (.aload_n 0, 1) := by decide +kernel
theorem dX6_counted_103 : decode cX6_counted 103 = .ok (.aload_n 1, 1) := by decide +kernel
theorem dX6_counted_104 : decode cX6_counted 104 = .ok (.invokevirtual 147, 3) := by decide +kernel
theorem dX6_counted_107 : decode cX6_counted 107 = .ok (.ireturn, 1) := by decide +kernel
theorem dX6_counted_108 : decode cX6_counted 108 = .ok (.aload_n 1, 1) := by decide +kernel
theorem dX6_counted_109 : decode cX6_counted 109 = .ok (.getfield 188, 3) := by decide +kernel
theorem dX6_counted_112 : decode cX6_counted 112 = .ok (.ireturn, 1) := by decide +kernel
theorem dX6_counted_113 : decode cX6_counted 113 = .ok (.aload_n 1, 1) := by decide +kernel
theorem dX6_counted_114 : decode cX6_counted 114 = .ok (.getfield 191, 3) := by decide +kernel
theorem dX6_counted_117 : decode cX6_counted 117 = .ok (.ireturn, 1) := by decide +kernel
theorem dX6_counted_118 : decode cX6_counted 118 = .ok (.aload_n 1, 1) := by decide +kernel
theorem dX6_counted_119 : decode cX6_counted 119 = .ok (.getfield 69, 3) := by decide +kernel
theorem dX6_counted_122 : decode cX6_counted 122 = .ok (.ireturn, 1) := by decide +kernel
theorem dX6_counted_123 : decode cX6_counted 123 = .ok (.aload_n 0, 1) := by decide +kernel
theorem dX6_counted_124 : decode cX6_counted 124 = .ok (.aload_n 1, 1) := by decide +kernel
theorem dX6_counted_125 : decode cX6_counted 125 = .ok (.getfield 159, 3) := by decide +kernel
theorem dX6_counted_128 : decode cX6_counted 128 = .ok (.invokevirtual 184, 3) := by decide +kernel
theorem dX6_counted_131 : decode cX6_counted 131 = .ok (.ireturn, 1) := by decide +kernel
theorem dX6_counted_132 : decode cX6_counted 132 = .ok (.aload_n 1, 1) := by decide +kernel
theorem dX6_counted_133 : decode cX6_counted 133 = .ok (.getfield 194, 3) := by decide +kernel
theorem dX6_counted_136 : decode cX6_counted 136 = .ok (.ireturn, 1) := by decide +kernel
theorem dX6_counted_137 : decode cX6_counted 137 = .ok (.aload_n 0, 1) := by decide +kernel
theorem dX6_counted_138 : decode cX6_counted 138 = .ok (.getfield 22, 3) := by decide +kernel
theorem dX6_counted_141 : decode cX6_counted 141 = .ok (.ireturn, 1) := by decide +kernel
theorem dX6_count_0 : decode cX6_count 0 = .ok (.aload_n 0, 1) := by decide +kernel
theorem dX6_count_1 : decode cX6_count 1 = .ok (.iconst 0, 1) := by decide +kernel
theorem dX6_count_2 : decode cX6_count 2 = .ok (.putfield 36, 3) := by decide +kernel
theorem dX6_count_5 : decode cX6_count 5 = .ok (.iload_n 1, 1) := by decide +kernel
theorem dX6_count_6 : decode cX6_count 6 = .ok (.iconst 0, 1) := by decide +kernel
theorem dX6_count_7 : decode cX6_count 7 = .ok (.bipush 12, 2) := by decide +kernel
theorem dX6_count_9 : decode cX6_count 9 = .ok (.invokestatic 42, 3) := by decide +kernel
theorem dX6_count_12 : decode cX6_count 12 = .ok (.ifCond .eq 15, 3) := by decide +kernel
theorem dX6_count_15 : decode cX6_count 15 = .ok (.aload_n 0, 1) := by decide +kernel
theorem dX6_count_16 : decode cX6_count 16 = .ok (.aload_n 0, 1) := by decide +kernel
theorem dX6_count_17 : decode cX6_count 17 = .ok (.getfield 29, 3) := by decide +kernel
theorem dX6_count_20 : decode cX6_count 20 = .ok (.iload_n 1, 1) := by decide +kernel
theorem dX6_count_21 : decode cX6_count 21 = .ok (.invokevirtual 197, 3) := by decide +kernel
theorem dX6_count_24 : decode cX6_count 24 = .ok (.goto 8, 3) := by decide +kernel
theorem dX6_count_27 : decode cX6_count 27 = .ok (.aload_n 0, 1) := by decide +kernel
theorem dX6_count_28 : decode cX6_count 28 = .ok (.iconst 1, 1) := by decide +kernel
theorem dX6_count_29 : decode cX6_count 29 = .ok (.invokevirtual 127, 3) := by decide +kernel
theorem dX6_count_32 : decode cX6_count 32 = .ok (.ireturn, 1) := by decide +kernel
theorem dX6_victim_0 : decode cX6_victim 0 = .ok (.aload_n 0, 1) := by decide +kernel
theorem dX6_victim_1 : decode cX6_victim 1 = .ok (.iconst 0, 1) := by decide +kernel
theorem dX6_victim_2 : decode cX6_victim 2 = .ok (.putfield 36, 3) := by decide +kernel
theorem dX6_victim_5 : decode cX6_victim 5 = .ok (.aload_n 0, 1) := by decide +kernel
theorem dX6_victim_6 : decode cX6_victim 6 = .ok (.iload_n 1, 1) := by decide +kernel
theorem dX6_victim_7 : decode cX6_victim 7 = .ok (.invokevirtual 130, 3) := by decide +kernel
theorem dX6_victim_10 : decode cX6_victim 10 = .ok (.ifCond .eq 15, 3) := by decide +kernel
theorem dX6_victim_13 : decode cX6_victim 13 = .ok (.aload_n 0, 1) := by decide +kernel
theorem dX6_victim_14 : decode cX6_victim 14 = .ok (.aload_n 0, 1) := by decide +kernel
theorem dX6_victim_15 : decode cX6_victim 15 = .ok (.getfield 29, 3) := by decide +kernel
theorem dX6_victim_18 : decode cX6_victim 18 = .ok (.iload_n 1, 1) := by decide +kernel
theorem dX6_victim_19 : decode cX6_victim 19 = .ok (.invokevirtual 102, 3) := by decide +kernel
theorem dX6_victim_22 : decode cX6_victim 22 = .ok (.goto 8, 3) := by decide +kernel
theorem dX6_victim_25 : decode cX6_victim 25 = .ok (.aload_n 0, 1) := by decide +kernel
theorem dX6_victim_26 : decode cX6_victim 26 = .ok (.iconst 1, 1) := by decide +kernel
theorem dX6_victim_27 : decode cX6_victim 27 = .ok (.invokevirtual 127, 3) := by decide +kernel
theorem dX6_victim_30 : decode cX6_victim 30 = .ok (.ireturn, 1) := by decide +kernel
theorem dX6_thief_0 : decode cX6_thief 0 = .ok (.aload_n 0, 1) := by decide +kernel
theorem dX6_thief_1 : decode cX6_thief 1 = .ok (.iconst 0, 1) := by decide +kernel
theorem dX6_thief_2 : decode cX6_thief 2 = .ok (.putfield 36, 3) := by decide +kernel
theorem dX6_thief_5 : decode cX6_thief 5 = .ok (.iconst (-1), 1) := by decide +kernel
theorem dX6_thief_6 : decode cX6_thief 6 = .ok (.istore_n 1, 1) := by decide +kernel
theorem dX6_thief_7 : decode cX6_thief 7 = .ok (.iconst 0, 1) := by decide +kernel
theorem dX6_thief_8 : decode cX6_thief 8 = .ok (.istore_n 2, 1) := by decide +kernel
theorem dX6_thief_9 : decode cX6_thief 9 = .ok (.iload_n 2, 1) := by decide +kernel
theorem dX6_thief_10 : decode cX6_thief 10 = .ok (.aload_n 0, 1) := by decide +kernel
theorem dX6_thief_11 : decode cX6_thief 11 = .ok (.getfield 39, 3) := by decide +kernel
theorem dX6_thief_14 : decode cX6_thief 14 = .ok (.if_icmp .ge 37, 3) := by decide +kernel
theorem dX6_thief_17 : decode cX6_thief 17 = .ok (.iload_n 1, 1) := by decide +kernel
theorem dX6_thief_18 : decode cX6_thief 18 = .ok (.iconst (-1), 1) := by decide +kernel
theorem dX6_thief_19 : decode cX6_thief 19 = .ok (.if_icmp .eq 24, 3) := by decide +kernel
theorem dX6_thief_22 : decode cX6_thief 22 = .ok (.aload_n 0, 1) := by decide +kernel
theorem dX6_thief_23 : decode cX6_thief 23 = .ok (.getfield 29, 3) := by decide +kernel
theorem dX6_thief_26 : decode cX6_thief 26 = .ok (.getfield 153, 3) := by decide +kernel
theorem dX6_thief_29 : decode cX6_thief 29 = .ok (.iload_n 2, 1) := by decide +kernel
theorem dX6_thief_30 : decode cX6_thief 30 = .ok (.iaload, 1) := by decide +kernel
theorem dX6_thief_31 : decode cX6_thief 31 = .ok (.aload_n 0, 1) := by decide +kernel
theorem dX6_thief_32 : decode cX6_thief 32 = .ok (.getfield 29, 3) := by decide +kernel
theorem dX6_thief_35 : decode cX6_thief 35 = .ok (.getfield 153, 3) := by decide +kernel
theorem dX6_thief_38 : decode cX6_thief 38 = .ok (.iload_n 1, 1) := by decide +kernel
theorem dX6_thief_39 : decode cX6_thief 39 = .ok (.iaload, 1) := by decide +kernel
theorem dX6_thief_40 : decode cX6_thief 40 = .ok (.if_icmp .le 5, 3) := by decide +kernel
theorem dX6_thief_43 : decode cX6_thief 43 = .ok (.iload_n 2, 1) := by decide +kernel
theorem dX6_thief_44 : decode cX6_thief 44 = .ok (.istore_n 1, 1) := by decide +kernel
theorem dX6_thief_45 : decode cX6_thief 45 = .ok (.iinc 2 1, 3) := by decide +kernel
theorem dX6_thief_48 : decode cX6_thief 48 = .ok (.goto (-39), 3) := by decide +kernel
theorem dX6_thief_51 : decode cX6_thief 51 = .ok (.iload_n 1, 1) := by decide +kernel
theorem dX6_thief_52 : decode cX6_thief 52 = .ok (.ireturn, 1) := by decide +kernel
theorem dX6_pass__0 : decode cX6_pass_ 0 = .ok (.aload_n 0, 1) := by decide +kernel
theorem dX6_pass__1 : decode cX6_pass_ 1 = .ok (.iconst 0, 1) := by decide +kernel
theorem dX6_pass__2 : decode cX6_pass_ 2 = .ok (.putfield 36, 3) := by decide +kernel
theorem dX6_pass__5 : decode cX6_pass_ 5 = .ok (.iload_n 1, 1) := by decide +kernel
theorem dX6_pass__6 : decode cX6_pass_ 6 = .ok (.iconst 1, 1) := by decide +kernel
theorem dX6_pass__7 : decode cX6_pass_ 7 = .ok (.bipush 60, 2) := by decide +kernel
theorem dX6_pass__9 : decode cX6_pass_ 9 = .ok (.invokestatic 42, 3) := by decide +kernel
theorem dX6_pass__12 : decode cX6_pass_ 12 = .ok (.ifCond .ne 9, 3) := by decide +kernel
theorem dX6_pass__15 : decode cX6_pass_ 15 = .ok (.aload_n 0, 1) := by decide +kernel
theorem dX6_pass__16 : decode cX6_pass_ 16 = .ok (.iconst 1, 1) := by decide +kernel
theorem dX6_pass__17 : decode cX6_pass_ 17 = .ok (.invokevirtual 127, 3) := by decide +kernel
theorem dX6_pass__20 : decode cX6_pass_ 20 = .ok (.ireturn, 1) := by decide +kernel
theorem dX6_pass__21 : decode cX6_pass_ 21 = .ok (.aload_n 0, 1) := by decide +kernel
theorem dX6_pass__22 : decode cX6_pass_ 22 = .ok (.aload_n 0, 1) := by decide +kernel
theorem dX6_pass__23 : decode cX6_pass_ 23 = .ok (.getfield 29, 3) := by decide +kernel
theorem dX6_pass__26 : decode cX6_pass_ 26 = .ok (.iconst 2, 1) := by decide +kernel
theorem dX6_pass__27 : decode cX6_pass_ 27 = .ok (.invokevirtual 181, 3) := by decide +kernel
theorem dX6_pass__30 : decode cX6_pass_ 30 = .ok (.istore_n 2, 1) := by decide +kernel
theorem dX6_pass__31 : decode cX6_pass_ 31 = .ok (.aload_n 0, 1) := by decide +kernel
theorem dX6_pass__32 : decode cX6_pass_ 32 = .ok (.aload_n 0, 1) := by decide +kernel
theorem dX6_pass__33 : decode cX6_pass_ 33 = .ok (.aload_n 0, 1) := by decide +kernel
theorem dX6_pass__34 : decode cX6_pass_ 34 = .ok (.getfield 29, 3) := by decide +kernel
theorem dX6_pass__37 : decode cX6_pass_ 37 = .ok (.iload_n 1, 1) := by decide +kernel
theorem dX6_pass__38 : decode cX6_pass_ 38 = .ok (.aload_n 0, 1) := by decide +kernel
theorem dX6_pass__39 : decode cX6_pass_ 39 = .ok (.getfield 22, 3) := by decide +kernel
theorem dX6_pass__42 : decode cX6_pass_ 42 = .ok (.invokevirtual 200, 3) := by decide +kernel
theorem dX6_pass__45 : decode cX6_pass_ 45 = .ok (.iconst 2, 1) := by decide +kernel
theorem dX6_pass__46 : decode cX6_pass_ 46 = .ok (.invokevirtual 181, 3) := by decide +kernel
theorem dX6_pass__49 : decode cX6_pass_ 49 = .ok (.iload_n 2, 1) := by decide +kernel
theorem dX6_pass__50 : decode cX6_pass_ 50 = .ok (.isub, 1) := by decide +kernel
theorem dX6_pass__51 : decode cX6_pass_ 51 = .ok (.ireturn, 1) := by decide +kernel
theorem dX6_until_0 : decode cX6_until 0 = .ok (.aload_n 0, 1) := by decide +kernel
theorem dX6_until_1 : decode cX6_until 1 = .ok (.iconst 0, 1) := by decide +kernel
theorem dX6_until_2 : decode cX6_until 2 = .ok (.putfield 36, 3) := by decide +kernel
theorem dX6_until_5 : decode cX6_until 5 = .ok (.aload_n 0, 1) := by decide +kernel
theorem dX6_until_6 : decode cX6_until 6 = .ok (.iload_n 1, 1) := by decide +kernel
theorem dX6_until_7 : decode cX6_until 7 = .ok (.invokevirtual 175, 3) := by decide +kernel
theorem dX6_until_10 : decode cX6_until 10 = .ok (.ifCond .ne 9, 3) := by decide +kernel
theorem dX6_until_13 : decode cX6_until 13 = .ok (.aload_n 0, 1) := by decide +kernel
theorem dX6_until_14 : decode cX6_until 14 = .ok (.iconst 1, 1) := by decide +kernel
theorem dX6_until_15 : decode cX6_until 15 = .ok (.invokevirtual 127, 3) := by decide +kernel
theorem dX6_until_18 : decode cX6_until 18 = .ok (.ireturn, 1) := by decide +kernel
theorem dX6_until_19 : decode cX6_until 19 = .ok (.aload_n 0, 1) := by decide +kernel
theorem dX6_until_20 : decode cX6_until 20 = .ok (.getfield 33, 3) := by decide +kernel
theorem dX6_until_23 : decode cX6_until 23 = .ok (.aload_n 0, 1) := by decide +kernel
theorem dX6_until_24 : decode cX6_until 24 = .ok (.getfield 29, 3) := by decide +kernel
theorem dX6_until_27 : decode cX6_until 27 = .ok (.invokevirtual 204, 3) := by decide +kernel
theorem dX6_until_30 : decode cX6_until 30 = .ok (.pop, 1) := by decide +kernel
theorem dX6_until_31 : decode cX6_until 31 = .ok (.iconst 0, 1) := by decide +kernel
theorem dX6_until_32 : decode cX6_until 32 = .ok (.istore_n 2, 1) := by decide +kernel
theorem dX6_until_33 : decode cX6_until 33 = .ok (.iload_n 2, 1) := by decide +kernel
theorem dX6_until_34 : decode cX6_until 34 = .ok (.sipush 300, 3) := by decide +kernel
theorem dX6_until_37 : decode cX6_until 37 = .ok (.if_icmp .gt 36, 3) := by decide +kernel
theorem dX6_until_40 : decode cX6_until 40 = .ok (.aload_n 0, 1) := by decide +kernel
theorem dX6_until_41 : decode cX6_until 41 = .ok (.getfield 33, 3) := by decide +kernel
theorem dX6_until_44 : decode cX6_until 44 = .ok (.getfield 63, 3) := by decide +kernel
theorem dX6_until_47 : decode cX6_until 47 = .ok (.iload_n 1, 1) := by decide +kernel
theorem dX6_until_48 : decode cX6_until 48 = .ok (.iaload, 1) := by decide +kernel
theorem dX6_until_49 : decode cX6_until 49 = .ok (.iconst 2, 1) := by decide +kernel
theorem dX6_until_50 : decode cX6_until 50 = .ok (.if_icmp .ne 5, 3) := by decide +kernel
theorem dX6_until_53 : decode cX6_until 53 = .ok (.iload_n 2, 1) := by decide +kernel
theorem dX6_until_54 : decode cX6_until 54 = .ok (.ireturn, 1) := by decide +kernel
theorem dX6_until_55 : decode cX6_until 55 = .ok (.aload_n 0, 1) := by decide +kernel
theorem dX6_until_56 : decode cX6_until 56 = .ok (.aload_n 0, 1) := by decide +kernel
theorem dX6_until_57 : decode cX6_until 57 = .ok (.getfield 33, 3) := by decide +kernel
theorem dX6_until_60 : decode cX6_until 60 = .ok (.aload_n 0, 1) := by decide +kernel
theorem dX6_until_61 : decode cX6_until 61 = .ok (.getfield 22, 3) := by decide +kernel
theorem dX6_until_64 : decode cX6_until 64 = .ok (.invokevirtual 123, 3) := by decide +kernel
theorem dX6_until_67 : decode cX6_until 67 = .ok (.iinc 2 1, 3) := by decide +kernel
theorem dX6_until_70 : decode cX6_until 70 = .ok (.goto (-37), 3) := by decide +kernel
theorem dX6_until_73 : decode cX6_until 73 = .ok (.iconst (-1), 1) := by decide +kernel
theorem dX6_until_74 : decode cX6_until 74 = .ok (.ireturn, 1) := by decide +kernel
theorem dX6_foresee_0 : decode cX6_foresee 0 = .ok (.aload_n 0, 1) := by decide +kernel
theorem dX6_foresee_1 : decode cX6_foresee 1 = .ok (.iconst 0, 1) := by decide +kernel
theorem dX6_foresee_2 : decode cX6_foresee 2 = .ok (.putfield 36, 3) := by decide +kernel
theorem dX6_foresee_5 : decode cX6_foresee 5 = .ok (.iload_n 1, 1) := by decide +kernel
theorem dX6_foresee_6 : decode cX6_foresee 6 = .ok (.iconst 1, 1) := by decide +kernel
theorem dX6_foresee_7 : decode cX6_foresee 7 = .ok (.bipush 60, 2) := by decide +kernel
theorem dX6_foresee_9 : decode cX6_foresee 9 = .ok (.invokestatic 42, 3) := by decide +kernel
theorem dX6_foresee_12 : decode cX6_foresee 12 = .ok (.ifCond .ne 9, 3) := by decide +kernel
theorem dX6_foresee_15 : decode cX6_foresee 15 = .ok (.aload_n 0, 1) := by decide +kernel
theorem dX6_foresee_16 : decode cX6_foresee 16 = .ok (.iconst 1, 1) := by decide +kernel
theorem dX6_foresee_17 : decode cX6_foresee 17 = .ok (.invokevirtual 127, 3) := by decide +kernel
theorem dX6_foresee_20 : decode cX6_foresee 20 = .ok (.ireturn, 1) := by decide +kernel
theorem dX6_foresee_21 : decode cX6_foresee 21 = .ok (.iload_n 2, 1) := by decide +kernel
theorem dX6_foresee_22 : decode cX6_foresee 22 = .ok (.iconst 3, 1) := by decide +kernel
theorem dX6_foresee_23 : decode cX6_foresee 23 = .ok (.bipush 11, 2) := by decide +kernel
theorem dX6_foresee_25 : decode cX6_foresee 25 = .ok (.invokestatic 42, 3) := by decide +kernel
theorem dX6_foresee_28 : decode cX6_foresee 28 = .ok (.ifCond .ne 9, 3) := by decide +kernel
theorem dX6_foresee_31 : decode cX6_foresee 31 = .ok (.aload_n 0, 1) := by decide +kernel
theorem dX6_foresee_32 : decode cX6_foresee 32 = .ok (.iconst 2, 1) := by decide +kernel
theorem dX6_foresee_33 : decode cX6_foresee 33 = .ok (.invokevirtual 127, 3) := by decide +kernel
theorem dX6_foresee_36 : decode cX6_foresee 36 = .ok (.ireturn, 1) := by decide +kernel
theorem dX6_foresee_37 : decode cX6_foresee 37 = .ok (.aload_n 0, 1) := by decide +kernel
theorem dX6_foresee_38 : decode cX6_foresee 38 = .ok (.aload_n 0, 1) := by decide +kernel
theorem dX6_foresee_39 : decode cX6_foresee 39 = .ok (.aload_n 0, 1) := by decide +kernel
theorem dX6_foresee_40 : decode cX6_foresee 40 = .ok (.getfield 33, 3) := by decide +kernel
theorem dX6_foresee_43 : decode cX6_foresee 43 = .ok (.aload_n 0, 1) := by decide +kernel
theorem dX6_foresee_44 : decode cX6_foresee 44 = .ok (.getfield 29, 3) := by decide +kernel
theorem dX6_foresee_47 : decode cX6_foresee 47 = .ok (.invokevirtual 204, 3) := by decide +kernel
theorem dX6_foresee_50 : decode cX6_foresee 50 = .ok (.iload_n 1, 1) := by decide +kernel
theorem dX6_foresee_51 : decode cX6_foresee 51 = .ok (.aload_n 0, 1) := by decide +kernel
theorem dX6_foresee_52 : decode cX6_foresee 52 = .ok (.getfield 22, 3) := by decide +kernel
theorem dX6_foresee_55 : decode cX6_foresee 55 = .ok (.invokevirtual 200, 3) := by decide +kernel
theorem dX6_foresee_58 : decode cX6_foresee 58 = .ok (.iload_n 2, 1) := by decide +kernel
theorem dX6_foresee_59 : decode cX6_foresee 59 = .ok (.invokevirtual 197, 3) := by decide +kernel
theorem dX6_foresee_62 : decode cX6_foresee 62 = .ok (.ireturn, 1) := by decide +kernel
theorem dX6_advise_0 : decode cX6_advise 0 = .ok (.aload_n 0, 1) := by decide +kernel
theorem dX6_advise_1 : decode cX6_advise 1 = .ok (.iconst 0, 1) := by decide +kernel
theorem dX6_advise_2 : decode cX6_advise 2 = .ok (.putfield 36, 3) := by decide +kernel
theorem dX6_advise_5 : decode cX6_advise 5 = .ok (.iload_n 1, 1) := by decide +kernel
theorem dX6_advise_6 : decode cX6_advise 6 = .ok (.iconst 1, 1) := by decide +kernel
theorem dX6_advise_7 : decode cX6_advise 7 = .ok (.bipush 40, 2) := by decide +kernel
theorem dX6_advise_9 : decode cX6_advise 9 = .ok (.invokestatic 42, 3) := by decide +kernel
theorem dX6_advise_12 : decode cX6_advise 12 = .ok (.ifCond .ne 9, 3) := by decide +kernel
theorem dX6_advise_15 : decode cX6_advise 15 = .ok (.aload_n 0, 1) := by decide +kernel
theorem dX6_advise_16 : decode cX6_advise 16 = .ok (.iconst 1, 1) := by decide +kernel
theorem dX6_advise_17 : decode cX6_advise 17 = .ok (.invokevirtual 127, 3) := by decide +kernel
theorem dX6_advise_20 : decode cX6_advise 20 = .ok (.ireturn, 1) := by decide +kernel
theorem dX6_advise_21 : decode cX6_advise 21 = .ok (.iconst 0, 1) := by decide +kernel
theorem dX6_advise_22 : decode cX6_advise 22 = .ok (.istore_n 2, 1) := by decide +kernel
theorem dX6_advise_23 : decode cX6_advise 23 = .ok (.iconst (-1), 1) := by decide +kernel
theorem dX6_advise_24 : decode cX6_advise 24 = .ok (.istore_n 3, 1) := by decide +kernel
theorem dX6_advise_25 : decode cX6_advise 25 = .ok (.getstatic 208, 3) := by decide +kernel
theorem dX6_advise_28 : decode cX6_advise 28 = .ok (.astore 4, 2) := by decide +kernel
theorem dX6_advise_30 : decode cX6_advise 30 = .ok (.aload 4, 2) := by decide +kernel
theorem dX6_advise_32 : decode cX6_advise 32 = .ok (.arraylength, 1) := by decide +kernel
theorem dX6_advise_33 : decode cX6_advise 33 = .ok (.istore 5, 2) := by decide +kernel
theorem dX6_advise_35 : decode cX6_advise 35 = .ok (.iconst 0, 1) := by decide +kernel
theorem dX6_advise_36 : decode cX6_advise 36 = .ok (.istore 6, 2) := by decide +kernel
theorem dX6_advise_38 : decode cX6_advise 38 = .ok (.iload 6, 2) := by decide +kernel
theorem dX6_advise_40 : decode cX6_advise 40 = .ok (.iload 5, 2) := by decide +kernel
theorem dX6_advise_42 : decode cX6_advise 42 = .ok (.if_icmp .ge 54, 3) := by decide +kernel
theorem dX6_advise_45 : decode cX6_advise 45 = .ok (.aload 4, 2) := by decide +kernel
theorem dX6_advise_47 : decode cX6_advise 47 = .ok (.iload 6, 2) := by decide +kernel
theorem dX6_advise_49 : decode cX6_advise 49 = .ok (.iaload, 1) := by decide +kernel
theorem dX6_advise_50 : decode cX6_advise 50 = .ok (.istore 7, 2) := by decide +kernel
theorem dX6_advise_52 : decode cX6_advise 52 = .ok (.aload_n 0, 1) := by decide +kernel
theorem dX6_advise_53 : decode cX6_advise 53 = .ok (.aload_n 0, 1) := by decide +kernel
theorem dX6_advise_54 : decode cX6_advise 54 = .ok (.getfield 33, 3) := by decide +kernel
theorem dX6_advise_57 : decode cX6_advise 57 = .ok (.aload_n 0, 1) := by decide +kernel
theorem dX6_advise_58 : decode cX6_advise 58 = .ok (.getfield 29, 3) := by decide +kernel
theorem dX6_advise_61 : decode cX6_advise 61 = .ok (.invokevirtual 204, 3) := by decide +kernel
theorem dX6_advise_64 : decode cX6_advise 64 = .ok (.iload_n 1, 1) := by decide +kernel
theorem dX6_advise_65 : decode cX6_advise 65 = .ok (.iload 7, 2) := by decide +kernel
theorem dX6_advise_67 : decode cX6_advise 67 = .ok (.invokevirtual 200, 3) := by decide +kernel
theorem dX6_advise_70 : decode cX6_advise 70 = .ok (.getfield 194, 3) := by decide +kernel
theorem dX6_advise_73 : decode cX6_advise 73 = .ok (.istore 8, 2) := by decide +kernel
theorem dX6_advise_75 : decode cX6_advise 75 = .ok (.iload 8, 2) := by decide +kernel
theorem dX6_advise_77 : decode cX6_advise 77 = .ok (.iload_n 3, 1) := by decide +kernel
theorem dX6_advise_78 : decode cX6_advise 78 = .ok (.if_icmp .gt 6, 3) := by decide +kernel
theorem dX6_advise_81 : decode cX6_advise 81 = .ok (.goto 9, 3) := by decide +kernel
theorem dX6_advise_84 : decode cX6_advise 84 = .ok (.iload 7, 2) := by decide +kernel
theorem dX6_advise_86 : decode cX6_advise 86 = .ok (.istore_n 2, 1) := by decide +kernel
theorem dX6_advise_87 : decode cX6_advise 87 = .ok (.iload 8, 2) := by decide +kernel
theorem dX6_advise_89 : decode cX6_advise 89 = .ok (.istore_n 3, 1) := by decide +kernel
theorem dX6_advise_90 : decode cX6_advise 90 = .ok (.iinc 6 1, 3) := by decide +kernel
theorem dX6_advise_93 : decode cX6_advise 93 = .ok (.goto (-55), 3) := by decide +kernel
theorem dX6_advise_96 : decode cX6_advise 96 = .ok (.iload_n 2, 1) := by decide +kernel
theorem dX6_advise_97 : decode cX6_advise 97 = .ok (.ireturn, 1) := by decide +kernel
theorem dX6_mean_0 : decode cX6_mean 0 = .ok (.aload_n 0, 1) := by decide +kernel
theorem dX6_mean_1 : decode cX6_mean 1 = .ok (.iconst 0, 1) := by decide +kernel
theorem dX6_mean_2 : decode cX6_mean 2 = .ok (.putfield 36, 3) := by decide +kernel
theorem dX6_mean_5 : decode cX6_mean 5 = .ok (.aload_n 0, 1) := by decide +kernel
theorem dX6_mean_6 : decode cX6_mean 6 = .ok (.getfield 39, 3) := by decide +kernel
theorem dX6_mean_9 : decode cX6_mean 9 = .ok (.ifCond .ne 7, 3) := by decide +kernel
theorem dX6_mean_12 : decode cX6_mean 12 = .ok (.dconst 0, 1) := by decide +kernel
theorem dX6_mean_13 : decode cX6_mean 13 = .ok (.goto 21, 3) := by decide +kernel
theorem dX6_mean_16 : decode cX6_mean 16 = .ok (.aload_n 0, 1) := by decide +kernel
theorem dX6_mean_17 : decode cX6_mean 17 = .ok (.aload_n 0, 1) := by decide +kernel
theorem dX6_mean_18 : decode cX6_mean 18 = .ok (.getfield 29, 3) := by decide +kernel
theorem dX6_mean_21 : decode cX6_mean 21 = .ok (.getfield 159, 3) := by decide +kernel
theorem dX6_mean_24 : decode cX6_mean 24 = .ok (.invokevirtual 184, 3) := by decide +kernel
theorem dX6_mean_27 : decode cX6_mean 27 = .ok (.i2d, 1) := by decide +kernel
theorem dX6_mean_28 : decode cX6_mean 28 = .ok (.aload_n 0, 1) := by decide +kernel
theorem dX6_mean_29 : decode cX6_mean 29 = .ok (.getfield 39, 3) := by decide +kernel
theorem dX6_mean_32 : decode cX6_mean 32 = .ok (.i2d, 1) := by decide +kernel
theorem dX6_mean_33 : decode cX6_mean 33 = .ok (.ddiv, 1) := by decide +kernel
theorem dX6_mean_34 : decode cX6_mean 34 = .ok (.dreturn, 1) := by decide +kernel
theorem dX6_digest_0 : decode cX6_digest 0 = .ok (.aload_n 0, 1) := by decide +kernel
theorem dX6_digest_1 : decode cX6_digest 1 = .ok (.iconst 0, 1) := by decide +kernel
theorem dX6_digest_2 : decode cX6_digest 2 = .ok (.putfield 36, 3) := by decide +kernel
theorem dX6_digest_5 : decode cX6_digest 5 = .ok (.ldc2_w 211, 3) := by decide +kernel
theorem dX6_digest_8 : decode cX6_digest 8 = .ok (.lstore_n 1, 1) := by decide +kernel
theorem dX6_digest_9 : decode cX6_digest 9 = .ok (.iconst 0, 1) := by decide +kernel
theorem dX6_digest_10 : decode cX6_digest 10 = .ok (.istore_n 3, 1) := by decide +kernel
theorem dX6_digest_11 : decode cX6_digest 11 = .ok (.iload_n 3, 1) := by decide +kernel
theorem dX6_digest_12 : decode cX6_digest 12 = .ok (.bipush 12, 2) := by decide +kernel
theorem dX6_digest_14 : decode cX6_digest 14 = .ok (.if_icmp .gt 26, 3) := by decide +kernel
theorem dX6_digest_17 : decode cX6_digest 17 = .ok (.lload_n 1, 1) := by decide +kernel
theorem dX6_digest_18 : decode cX6_digest 18 = .ok (.ldc2_w 213, 3) := by decide +kernel
theorem dX6_digest_21 : decode cX6_digest 21 = .ok (.lmul, 1) := by decide +kernel
theorem dX6_digest_22 : decode cX6_digest 22 = .ok (.aload_n 0, 1) := by decide +kernel
theorem dX6_digest_23 : decode cX6_digest 23 = .ok (.aload_n 0, 1) := by decide +kernel
theorem dX6_digest_24 : decode cX6_digest 24 = .ok (.getfield 29, 3) := by decide +kernel
theorem dX6_digest_27 : decode cX6_digest 27 = .ok (.iload_n 3, 1) := by decide +kernel
theorem dX6_digest_28 : decode cX6_digest 28 = .ok (.invokevirtual 197, 3) := by decide +kernel
theorem dX6_digest_31 : decode cX6_digest 31 = .ok (.i2l, 1) := by decide +kernel
theorem dX6_digest_32 : decode cX6_digest 32 = .ok (.ladd, 1) := by decide +kernel
theorem dX6_digest_33 : decode cX6_digest 33 = .ok (.lstore_n 1, 1) := by decide +kernel
theorem dX6_digest_34 : decode cX6_digest 34 = .ok (.iinc 3 1, 3) := by decide +kernel
theorem dX6_digest_37 : decode cX6_digest 37 = .ok (.goto (-26), 3) := by decide +kernel
theorem dX6_digest_40 : decode cX6_digest 40 = .ok (.iconst 0, 1) := by decide +kernel
theorem dX6_digest_41 : decode cX6_digest 41 = .ok (.istore_n 3, 1) := by decide +kernel
theorem dX6_digest_42 : decode cX6_digest 42 = .ok (.iload_n 3, 1) := by decide +kernel
theorem dX6_digest_43 : decode cX6_digest 43 = .ok (.aload_n 0, 1) := by decide +kernel
theorem dX6_digest_44 : decode cX6_digest 44 = .ok (.getfield 39, 3) := by decide +kernel
theorem dX6_digest_47 : decode cX6_digest 47 = .ok (.if_icmp .ge 94, 3) := by decide +kernel
theorem dX6_digest_50 : decode cX6_digest 50 = .ok (.iconst 0, 1) := by decide +kernel
theorem dX6_digest_51 : decode cX6_digest 51 = .ok (.istore 4, 2) := by decide +kernel
theorem dX6_digest_53 : decode cX6_digest 53 = .ok (.iload 4, 2) := by decide +kernel
theorem dX6_digest_55 : decode cX6_digest 55 = .ok (.bipush 8, 2) := by decide +kernel
theorem dX6_digest_57 : decode cX6_digest 57 = .ok (.if_icmp .gt 24, 3) := by decide +kernel
theorem dX6_digest_60 : decode cX6_digest 60 = .ok (.lload_n 1, 1) := by decide +kernel
theorem dX6_digest_61 : decode cX6_digest 61 = .ok (.ldc2_w 213, 3) := by decide +kernel
theorem dX6_digest_64 : decode cX6_digest 64 = .ok (.lmul, 1) := by decide +kernel
theorem dX6_digest_65 : decode cX6_digest 65 = .ok (.aload_n 0, 1) := by decide +kernel
theorem dX6_digest_66 : decode cX6_digest 66 = .ok (.iload_n 3, 1) := by decide +kernel
theorem dX6_digest_67 : decode cX6_digest 67 = .ok (.iload 4, 2) := by decide +kernel
theorem dX6_digest_69 : decode cX6_digest 69 = .ok (.invokevirtual 165, 3) := by decide +kernel
theorem dX6_digest_72 : decode cX6_digest 72 = .ok (.i2l, 1) := by decide +kernel
theorem dX6_digest_73 : decode cX6_digest 73 = .ok (.ladd, 1) := by decide +kernel
theorem dX6_digest_74 : decode cX6_digest 74 = .ok (.lstore_n 1, 1) := by decide +kernel
theorem dX6_digest_75 : decode cX6_digest 75 = .ok (.iinc 4 1, 3) := by decide +kernel
theorem dX6_digest_78 : decode cX6_digest 78 = .ok (.goto (-25), 3) := by decide +kernel
theorem dX6_digest_81 : decode cX6_digest 81 = .ok (.iconst 0, 1) := by decide +kernel
theorem dX6_digest_82 : decode cX6_digest 82 = .ok (.istore 4, 2) := by decide +kernel
theorem dX6_digest_84 : decode cX6_digest 84 = .ok (.iload 4, 2) := by decide +kernel
theorem dX6_digest_86 : decode cX6_digest 86 = .ok (.aload_n 0, 1) := by decide +kernel
theorem dX6_digest_87 : decode cX6_digest 87 = .ok (.getfield 29, 3) := by decide +kernel
theorem dX6_digest_90 : decode cX6_digest 90 = .ok (.getfield 49, 3) := by decide +kernel
theorem dX6_digest_93 : decode cX6_digest 93 = .ok (.iload_n 3, 1) := by decide +kernel
theorem dX6_digest_94 : decode cX6_digest 94 = .ok (.iaload, 1) := by decide +kernel
theorem dX6_digest_95 : decode cX6_digest 95 = .ok (.if_icmp .ge 40, 3) := by decide +kernel
theorem dX6_digest_98 : decode cX6_digest 98 = .ok (.lload_n 1, 1) := by decide +kernel
theorem dX6_digest_99 : decode cX6_digest 99 = .ok (.ldc2_w 213, 3) := by decide +kernel
theorem dX6_digest_102 : decode cX6_digest 102 = .ok (.lmul, 1) := by decide +kernel
theorem dX6_digest_103 : decode cX6_digest 103 = .ok (.aload_n 0, 1) := by decide +kernel
theorem dX6_digest_104 : decode cX6_digest 104 = .ok (.getfield 29, 3) := by decide +kernel
theorem dX6_digest_107 : decode cX6_digest 107 = .ok (.getfield 52, 3) := by decide +kernel
theorem dX6_digest_110 : decode cX6_digest 110 = .ok (.aload_n 0, 1) := by decide +kernel
theorem dX6_digest_111 : decode cX6_digest 111 = .ok (.getfield 29, 3) := by decide +kernel
theorem dX6_digest_114 : decode cX6_digest 114 = .ok (.getfield 144, 3) := by decide +kernel
theorem dX6_digest_117 : decode cX6_digest 117 = .ok (.bipush 8, 2) := by decide +kernel
theorem dX6_digest_119 : decode cX6_digest 119 = .ok (.iload_n 3, 1) := by decide +kernel
theorem dX6_digest_120 : decode cX6_digest 120 = .ok (.imul, 1) := by decide +kernel
theorem dX6_digest_121 : decode cX6_digest 121 = .ok (.iload 4, 2) := by decide +kernel
theorem dX6_digest_123 : decode cX6_digest 123 = .ok (.iadd, 1) := by decide +kernel
theorem dX6_digest_124 : decode cX6_digest 124 = .ok (.iaload, 1) := by decide +kernel
theorem dX6_digest_125 : decode cX6_digest 125 = .ok (.iaload, 1) := by decide +kernel
theorem dX6_digest_126 : decode cX6_digest 126 = .ok (.i2l, 1) := by decide +kernel
theorem dX6_digest_127 : decode cX6_digest 127 = .ok (.ladd, 1) := by decide +kernel
theorem dX6_digest_128 : decode cX6_digest 128 = .ok (.lstore_n 1, 1) := by decide +kernel
theorem dX6_digest_129 : decode cX6_digest 129 = .ok (.iinc 4 1, 3) := by decide +kernel
theorem dX6_digest_132 : decode cX6_digest 132 = .ok (.goto (-48), 3) := by decide +kernel
theorem dX6_digest_135 : decode cX6_digest 135 = .ok (.iinc 3 1, 3) := by decide +kernel
theorem dX6_digest_138 : decode cX6_digest 138 = .ok (.goto (-96), 3) := by decide +kernel
theorem dX6_digest_141 : decode cX6_digest 141 = .ok (.iconst 0, 1) := by decide +kernel
theorem dX6_digest_142 : decode cX6_digest 142 = .ok (.istore_n 3, 1) := by decide +kernel
theorem dX6_digest_143 : decode cX6_digest 143 = .ok (.iload_n 3, 1) := by decide +kernel
theorem dX6_digest_144 : decode cX6_digest 144 = .ok (.aload_n 0, 1) := by decide +kernel
theorem dX6_digest_145 : decode cX6_digest 145 = .ok (.getfield 46, 3) := by decide +kernel
theorem dX6_digest_148 : decode cX6_digest 148 = .ok (.if_icmp .ge 40, 3) := by decide +kernel
theorem dX6_digest_151 : decode cX6_digest 151 = .ok (.iconst 0, 1) := by decide +kernel
theorem dX6_digest_152 : decode cX6_digest 152 = .ok (.istore 4, 2) := by decide +kernel
theorem dX6_digest_154 : decode cX6_digest 154 = .ok (.iload 4, 2) := by decide +kernel
theorem dX6_digest_156 : decode cX6_digest 156 = .ok (.bipush 6, 2) := by decide +kernel
theorem dX6_digest_158 : decode cX6_digest 158 = .ok (.if_icmp .gt 24, 3) := by decide +kernel
theorem dX6_digest_161 : decode cX6_digest 161 = .ok (.lload_n 1, 1) := by decide +kernel
theorem dX6_digest_162 : decode cX6_digest 162 = .ok (.ldc2_w 213, 3) := by decide +kernel
theorem dX6_digest_165 : decode cX6_digest 165 = .ok (.lmul, 1) := by decide +kernel
theorem dX6_digest_166 : decode cX6_digest 166 = .ok (.aload_n 0, 1) := by decide +kernel
theorem dX6_digest_167 : decode cX6_digest 167 = .ok (.iload_n 3, 1) := by decide +kernel
theorem dX6_digest_168 : decode cX6_digest 168 = .ok (.iload 4, 2) := by decide +kernel
theorem dX6_digest_170 : decode cX6_digest 170 = .ok (.invokevirtual 178, 3) := by decide +kernel
theorem dX6_digest_173 : decode cX6_digest 173 = .ok (.i2l, 1) := by decide +kernel
theorem dX6_digest_174 : decode cX6_digest 174 = .ok (.ladd, 1) := by decide +kernel
theorem dX6_digest_175 : decode cX6_digest 175 = .ok (.lstore_n 1, 1) := by decide +kernel
theorem dX6_digest_176 : decode cX6_digest 176 = .ok (.iinc 4 1, 3) := by decide +kernel
theorem dX6_digest_179 : decode cX6_digest 179 = .ok (.goto (-25), 3) := by decide +kernel
theorem dX6_digest_182 : decode cX6_digest 182 = .ok (.iinc 3 1, 3) := by decide +kernel
theorem dX6_digest_185 : decode cX6_digest 185 = .ok (.goto (-42), 3) := by decide +kernel
theorem dX6_digest_188 : decode cX6_digest 188 = .ok (.lload_n 1, 1) := by decide +kernel
theorem dX6_digest_189 : decode cX6_digest 189 = .ok (.lreturn, 1) := by decide +kernel
theorem dJ9_min_7cf53_0 : decode cJ9_min_7cf53 0 = .ok (.iload_n 0, 1) := by decide +kernel
theorem dJ9_min_7cf53_1 : decode cJ9_min_7cf53 1 = .ok (.iload_n 1, 1) := by decide +kernel
theorem dJ9_min_7cf53_2 : decode cJ9_min_7cf53 2 = .ok (.if_icmp .gt 7, 3) := by decide +kernel
theorem dJ9_min_7cf53_5 : decode cJ9_min_7cf53 5 = .ok (.iload_n 0, 1) := by decide +kernel
theorem dJ9_min_7cf53_6 : decode cJ9_min_7cf53 6 = .ok (.goto 4, 3) := by decide +kernel
theorem dJ9_min_7cf53_9 : decode cJ9_min_7cf53 9 = .ok (.iload_n 1, 1) := by decide +kernel
theorem dJ9_min_7cf53_10 : decode cJ9_min_7cf53 10 = .ok (.ireturn, 1) := by decide +kernel
theorem dL_come_0 : decode cL_come 0 = .ok (.aload_n 2, 1) := by decide +kernel
theorem dL_come_1 : decode cL_come 1 = .ok (.iconst 0, 1) := by decide +kernel
theorem dL_come_2 : decode cL_come 2 = .ok (.aload_n 0, 1) := by decide +kernel
theorem dL_come_3 : decode cL_come 3 = .ok (.iload_n 1, 1) := by decide +kernel
theorem dL_come_4 : decode cL_come 4 = .ok (.invokevirtual 7, 3) := by decide +kernel
theorem dL_come_7 : decode cL_come 7 = .ok (.i2l, 1) := by decide +kernel
theorem dL_come_8 : decode cL_come 8 = .ok (.lastore, 1) := by decide +kernel
theorem dL_come_9 : decode cL_come 9 = .ok (.goto 9, 3) := by decide +kernel
theorem dL_come_12 : decode cL_come 12 = .ok (.astore_n 3, 1) := by decide +kernel
theorem dL_come_13 : decode cL_come 13 = .ok (.iconst 1, 1) := by decide +kernel
theorem dL_come_14 : decode cL_come 14 = .ok (.ireturn, 1) := by decide +kernel
theorem dL_come_15 : decode cL_come 15 = .ok (.astore_n 3, 1) := by decide +kernel
theorem dL_come_16 : decode cL_come 16 = .ok (.iconst 2, 1) := by decide +kernel
theorem dL_come_17 : decode cL_come 17 = .ok (.ireturn, 1) := by decide +kernel
theorem dL_come_18 : decode cL_come 18 = .ok (.iconst 0, 1) := by decide +kernel
theorem dL_come_19 : decode cL_come 19 = .ok (.ireturn, 1) := by decide +kernel
theorem dL_setWay_0 : decode cL_setWay 0 = .ok (.aload_n 3, 1) := by decide +kernel
theorem dL_setWay_1 : decode cL_setWay 1 = .ok (.iconst 0, 1) := by decide +kernel
theorem dL_setWay_2 : decode cL_setWay 2 = .ok (.aload_n 0, 1) := by decide +kernel
theorem dL_setWay_3 : decode cL_setWay 3 = .ok (.iload_n 1, 1) := by decide +kernel
theorem dL_setWay_4 : decode cL_setWay 4 = .ok (.iload_n 2, 1) := by decide +kernel
theorem dL_setWay_5 : decode cL_setWay 5 = .ok (.invokevirtual 17, 3) := by decide +kernel
theorem dL_setWay_8 : decode cL_setWay 8 = .ok (.i2l, 1) := by decide +kernel
theorem dL_setWay_9 : decode cL_setWay 9 = .ok (.lastore, 1) := by decide +kernel
theorem dL_setWay_10 : decode cL_setWay 10 = .ok (.goto 7, 3) := by decide +kernel
theorem dL_setWay_13 : decode cL_setWay 13 = .ok (.astore 4, 2) := by decide +kernel
theorem dL_setWay_15 : decode cL_setWay 15 = .ok (.iconst 1, 1) := by decide +kernel
theorem dL_setWay_16 : decode cL_setWay 16 = .ok (.ireturn, 1) := by decide +kernel
theorem dL_setWay_17 : decode cL_setWay 17 = .ok (.iconst 0, 1) := by decide +kernel
theorem dL_setWay_18 : decode cL_setWay 18 = .ok (.ireturn, 1) := by decide +kernel
theorem dL_setFork_0 : decode cL_setFork 0 = .ok (.aload_n 2, 1) := by decide +kernel
theorem dL_setFork_1 : decode cL_setFork 1 = .ok (.iconst 0, 1) := by decide +kernel
theorem dL_setFork_2 : decode cL_setFork 2 = .ok (.aload_n 0, 1) := by decide +kernel
theorem dL_setFork_3 : decode cL_setFork 3 = .ok (.iload_n 1, 1) := by decide +kernel
theorem dL_setFork_4 : decode cL_setFork 4 = .ok (.invokevirtual 23, 3) := by decide +kernel
theorem dL_setFork_7 : decode cL_setFork 7 = .ok (.i2l, 1) := by decide +kernel
theorem dL_setFork_8 : decode cL_setFork 8 = .ok (.lastore, 1) := by decide +kernel
theorem dL_setFork_9 : decode cL_setFork 9 = .ok (.goto 6, 3) := by decide +kernel
theorem dL_setFork_12 : decode cL_setFork 12 = .ok (.astore_n 3, 1) := by decide +kernel
theorem dL_setFork_13 : decode cL_setFork 13 = .ok (.iconst 1, 1) := by decide +kernel
theorem dL_setFork_14 : decode cL_setFork 14 = .ok (.ireturn, 1) := by decide +kernel
theorem dL_setFork_15 : decode cL_setFork 15 = .ok (.iconst 0, 1) := by decide +kernel
theorem dL_setFork_16 : decode cL_setFork 16 = .ok (.ireturn, 1) := by decide +kernel
theorem dL_bring_0 : decode cL_bring 0 = .ok (.aload_n 2, 1) := by decide +kernel
theorem dL_bring_1 : decode cL_bring 1 = .ok (.iconst 0, 1) := by decide +kernel
theorem dL_bring_2 : decode cL_bring 2 = .ok (.aload_n 0, 1) := by decide +kernel
theorem dL_bring_3 : decode cL_bring 3 = .ok (.iload_n 1, 1) := by decide +kernel
theorem dL_bring_4 : decode cL_bring 4 = .ok (.invokevirtual 26, 3) := by decide +kernel
theorem dL_bring_7 : decode cL_bring 7 = .ok (.i2l, 1) := by decide +kernel
theorem dL_bring_8 : decode cL_bring 8 = .ok (.lastore, 1) := by decide +kernel
theorem dL_bring_9 : decode cL_bring 9 = .ok (.goto 9, 3) := by decide +kernel
theorem dL_bring_12 : decode cL_bring 12 = .ok (.astore_n 3, 1) := by decide +kernel
theorem dL_bring_13 : decode cL_bring 13 = .ok (.iconst 1, 1) := by decide +kernel
theorem dL_bring_14 : decode cL_bring 14 = .ok (.ireturn, 1) := by decide +kernel
theorem dL_bring_15 : decode cL_bring 15 = .ok (.astore_n 3, 1) := by decide +kernel
theorem dL_bring_16 : decode cL_bring 16 = .ok (.iconst 2, 1) := by decide +kernel
theorem dL_bring_17 : decode cL_bring 17 = .ok (.ireturn, 1) := by decide +kernel
theorem dL_bring_18 : decode cL_bring 18 = .ok (.iconst 0, 1) := by decide +kernel
theorem dL_bring_19 : decode cL_bring 19 = .ok (.ireturn, 1) := by decide +kernel
theorem dL_swap_0 : decode cL_swap 0 = .ok (.aload_n 3, 1) := by decide +kernel
theorem dL_swap_1 : decode cL_swap 1 = .ok (.iconst 0, 1) := by decide +kernel
theorem dL_swap_2 : decode cL_swap 2 = .ok (.aload_n 0, 1) := by decide +kernel
theorem dL_swap_3 : decode cL_swap 3 = .ok (.iload_n 1, 1) := by decide +kernel
theorem dL_swap_4 : decode cL_swap 4 = .ok (.iload_n 2, 1) := by decide +kernel
theorem dL_swap_5 : decode cL_swap 5 = .ok (.invokevirtual 29, 3) := by decide +kernel
theorem dL_swap_8 : decode cL_swap 8 = .ok (.i2l, 1) := by decide +kernel
theorem dL_swap_9 : decode cL_swap 9 = .ok (.lastore, 1) := by decide +kernel
theorem dL_swap_10 : decode cL_swap 10 = .ok (.goto 11, 3) := by decide +kernel
theorem dL_swap_13 : decode cL_swap 13 = .ok (.astore 4, 2) := by decide +kernel
theorem dL_swap_15 : decode cL_swap 15 = .ok (.iconst 1, 1) := by decide +kernel
theorem dL_swap_16 : decode cL_swap 16 = .ok (.ireturn, 1) := by decide +kernel
theorem dL_swap_17 : decode cL_swap 17 = .ok (.astore 4, 2) := by decide +kernel
theorem dL_swap_19 : decode cL_swap 19 = .ok (.iconst 2, 1) := by decide +kernel
theorem dL_swap_20 : decode cL_swap 20 = .ok (.ireturn, 1) := by decide +kernel
theorem dL_swap_21 : decode cL_swap 21 = .ok (.iconst 0, 1) := by decide +kernel
theorem dL_swap_22 : decode cL_swap 22 = .ok (.ireturn, 1) := by decide +kernel
theorem dL_wake_0 : decode cL_wake 0 = .ok (.aload_n 2, 1) := by decide +kernel
theorem dL_wake_1 : decode cL_wake 1 = .ok (.iconst 0, 1) := by decide +kernel
theorem dL_wake_2 : decode cL_wake 2 = .ok (.aload_n 0, 1) := by decide +kernel
theorem dL_wake_3 : decode cL_wake 3 = .ok (.iload_n 1, 1) := by decide +kernel
theorem dL_wake_4 : decode cL_wake 4 = .ok (.invokevirtual 32, 3) := by decide +kernel
theorem dL_wake_7 : decode cL_wake 7 = .ok (.i2l, 1) := by decide +kernel
theorem dL_wake_8 : decode cL_wake 8 = .ok (.lastore, 1) := by decide +kernel
theorem dL_wake_9 : decode cL_wake 9 = .ok (.goto 9, 3) := by decide +kernel
theorem dL_wake_12 : decode cL_wake 12 = .ok (.astore_n 3, 1) := by decide +kernel
theorem dL_wake_13 : decode cL_wake 13 = .ok (.iconst 1, 1) := by decide +kernel
theorem dL_wake_14 : decode cL_wake 14 = .ok (.ireturn, 1) := by decide +kernel
theorem dL_wake_15 : decode cL_wake 15 = .ok (.astore_n 3, 1) := by decide +kernel
theorem dL_wake_16 : decode cL_wake 16 = .ok (.iconst 2, 1) := by decide +kernel
theorem dL_wake_17 : decode cL_wake 17 = .ok (.ireturn, 1) := by decide +kernel
theorem dL_wake_18 : decode cL_wake 18 = .ok (.iconst 0, 1) := by decide +kernel
theorem dL_wake_19 : decode cL_wake 19 = .ok (.ireturn, 1) := by decide +kernel
theorem dL_lad_0 : decode cL_lad 0 = .ok (.aload_n 3, 1) := by decide +kernel
theorem dL_lad_1 : decode cL_lad 1 = .ok (.iconst 0, 1) := by decide +kernel
theorem dL_lad_2 : decode cL_lad 2 = .ok (.aload_n 0, 1) := by decide +kernel
theorem dL_lad_3 : decode cL_lad 3 = .ok (.iload_n 1, 1) := by decide +kernel
theorem dL_lad_4 : decode cL_lad 4 = .ok (.iload_n 2, 1) := by decide +kernel
theorem dL_lad_5 : decode cL_lad 5 = .ok (.invokevirtual 35, 3) := by decide +kernel
theorem dL_lad_8 : decode cL_lad 8 = .ok (.i2l, 1) := by decide +kernel
theorem dL_lad_9 : decode cL_lad 9 = .ok (.lastore, 1) := by decide +kernel
theorem dL_lad_10 : decode cL_lad 10 = .ok (.goto 7, 3) := by decide +kernel
theorem dL_lad_13 : decode cL_lad 13 = .ok (.astore 4, 2) := by decide +kernel
theorem dL_lad_15 : decode cL_lad 15 = .ok (.iconst 1, 1) := by decide +kernel
theorem dL_lad_16 : decode cL_lad 16 = .ok (.ireturn, 1) := by decide +kernel
theorem dL_lad_17 : decode cL_lad 17 = .ok (.iconst 0, 1) := by decide +kernel
theorem dL_lad_18 : decode cL_lad 18 = .ok (.ireturn, 1) := by decide +kernel
theorem dL_cart_0 : decode cL_cart 0 = .ok (.aload_n 3, 1) := by decide +kernel
theorem dL_cart_1 : decode cL_cart 1 = .ok (.iconst 0, 1) := by decide +kernel
theorem dL_cart_2 : decode cL_cart 2 = .ok (.aload_n 0, 1) := by decide +kernel
theorem dL_cart_3 : decode cL_cart 3 = .ok (.iload_n 1, 1) := by decide +kernel
theorem dL_cart_4 : decode cL_cart 4 = .ok (.iload_n 2, 1) := by decide +kernel
theorem dL_cart_5 : decode cL_cart 5 = .ok (.invokevirtual 38, 3) := by decide +kernel
theorem dL_cart_8 : decode cL_cart 8 = .ok (.i2l, 1) := by decide +kernel
theorem dL_cart_9 : decode cL_cart 9 = .ok (.lastore, 1) := by decide +kernel
theorem dL_cart_10 : decode cL_cart 10 = .ok (.goto 7, 3) := by decide +kernel
theorem dL_cart_13 : decode cL_cart 13 = .ok (.astore 4, 2) := by decide +kernel
theorem dL_cart_15 : decode cL_cart 15 = .ok (.iconst 1, 1) := by decide +kernel
theorem dL_cart_16 : decode cL_cart 16 = .ok (.ireturn, 1) := by decide +kernel
theorem dL_cart_17 : decode cL_cart 17 = .ok (.iconst 0, 1) := by decide +kernel
theorem dL_cart_18 : decode cL_cart 18 = .ok (.ireturn, 1) := by decide +kernel
theorem dL_load_0 : decode cL_load 0 = .ok (.aload_n 3, 1) := by decide +kernel
theorem dL_load_1 : decode cL_load 1 = .ok (.iconst 0, 1) := by decide +kernel
theorem dL_load_2 : decode cL_load 2 = .ok (.aload_n 0, 1) := by decide +kernel
theorem dL_load_3 : decode cL_load 3 = .ok (.iload_n 1, 1) := by decide +kernel
theorem dL_load_4 : decode cL_load 4 = .ok (.iload_n 2, 1) := by decide +kernel
theorem dL_load_5 : decode cL_load 5 = .ok (.invokevirtual 41, 3) := by decide +kernel
theorem dL_load_8 : decode cL_load 8 = .ok (.i2l, 1) := by decide +kernel
theorem dL_load_9 : decode cL_load 9 = .ok (.lastore, 1) := by decide +kernel
theorem dL_load_10 : decode cL_load 10 = .ok (.goto 7, 3) := by decide +kernel
theorem dL_load_13 : decode cL_load 13 = .ok (.astore 4, 2) := by decide +kernel
theorem dL_load_15 : decode cL_load 15 = .ok (.iconst 1, 1) := by decide +kernel
theorem dL_load_16 : decode cL_load 16 = .ok (.ireturn, 1) := by decide +kernel
theorem dL_load_17 : decode cL_load 17 = .ok (.iconst 0, 1) := by decide +kernel
theorem dL_load_18 : decode cL_load 18 = .ok (.ireturn, 1) := by decide +kernel
theorem dL_count_0 : decode cL_count 0 = .ok (.aload_n 2, 1) := by decide +kernel
theorem dL_count_1 : decode cL_count 1 = .ok (.iconst 0, 1) := by decide +kernel
theorem dL_count_2 : decode cL_count 2 = .ok (.aload_n 0, 1) := by decide +kernel
theorem dL_count_3 : decode cL_count 3 = .ok (.iload_n 1, 1) := by decide +kernel
theorem dL_count_4 : decode cL_count 4 = .ok (.invokevirtual 44, 3) := by decide +kernel
theorem dL_count_7 : decode cL_count 7 = .ok (.i2l, 1) := by decide +kernel
theorem dL_count_8 : decode cL_count 8 = .ok (.lastore, 1) := by decide +kernel
theorem dL_count_9 : decode cL_count 9 = .ok (.goto 6, 3) := by decide +kernel
theorem dL_count_12 : decode cL_count 12 = .ok (.astore_n 3, 1) := by decide +kernel
theorem dL_count_13 : decode cL_count 13 = .ok (.iconst 1, 1) := by decide +kernel
theorem dL_count_14 : decode cL_count 14 = .ok (.ireturn, 1) := by decide +kernel
theorem dL_count_15 : decode cL_count 15 = .ok (.iconst 0, 1) := by decide +kernel
theorem dL_count_16 : decode cL_count 16 = .ok (.ireturn, 1) := by decide +kernel
theorem dL_victim_0 : decode cL_victim 0 = .ok (.aload_n 2, 1) := by decide +kernel
theorem dL_victim_1 : decode cL_victim 1 = .ok (.iconst 0, 1) := by decide +kernel
theorem dL_victim_2 : decode cL_victim 2 = .ok (.aload_n 0, 1) := by decide +kernel
theorem dL_victim_3 : decode cL_victim 3 = .ok (.iload_n 1, 1) := by decide +kernel
theorem dL_victim_4 : decode cL_victim 4 = .ok (.invokevirtual 47, 3) := by decide +kernel
theorem dL_victim_7 : decode cL_victim 7 = .ok (.i2l, 1) := by decide +kernel
theorem dL_victim_8 : decode cL_victim 8 = .ok (.lastore, 1) := by decide +kernel
theorem dL_victim_9 : decode cL_victim 9 = .ok (.goto 6, 3) := by decide +kernel
theorem dL_victim_12 : decode cL_victim 12 = .ok (.astore_n 3, 1) := by decide +kernel
theorem dL_victim_13 : decode cL_victim 13 = .ok (.iconst 1, 1) := by decide +kernel
theorem dL_victim_14 : decode cL_victim 14 = .ok (.ireturn, 1) := by decide +kernel
theorem dL_victim_15 : decode cL_victim 15 = .ok (.iconst 0, 1) := by decide +kernel
theorem dL_victim_16 : decode cL_victim 16 = .ok (.ireturn, 1) := by decide +kernel
theorem dL_pass_0 : decode cL_pass 0 = .ok (.aload_n 2, 1) := by decide +kernel
theorem dL_pass_1 : decode cL_pass 1 = .ok (.iconst 0, 1) := by decide +kernel
theorem dL_pass_2 : decode cL_pass 2 = .ok (.aload_n 0, 1) := by decide +kernel
theorem dL_pass_3 : decode cL_pass 3 = .ok (.iload_n 1, 1) := by decide +kernel
theorem dL_pass_4 : decode cL_pass 4 = .ok (.invokevirtual 50, 3) := by decide +kernel
theorem dL_pass_7 : decode cL_pass 7 = .ok (.i2l, 1) := by decide +kernel
theorem dL_pass_8 : decode cL_pass 8 = .ok (.lastore, 1) := by decide +kernel
theorem dL_pass_9 : decode cL_pass 9 = .ok (.goto 6, 3) := by decide +kernel
theorem dL_pass_12 : decode cL_pass 12 = .ok (.astore_n 3, 1) := by decide +kernel
theorem dL_pass_13 : decode cL_pass 13 = .ok (.iconst 1, 1) := by decide +kernel
theorem dL_pass_14 : decode cL_pass 14 = .ok (.ireturn, 1) := by decide +kernel
theorem dL_pass_15 : decode cL_pass 15 = .ok (.iconst 0, 1) := by decide +kernel
theorem dL_pass_16 : decode cL_pass 16 = .ok (.ireturn, 1) := by decide +kernel
theorem dL_until_0 : decode cL_until 0 = .ok (.aload_n 2, 1) := by decide +kernel
theorem dL_until_1 : decode cL_until 1 = .ok (.iconst 0, 1) := by decide +kernel
theorem dL_until_2 : decode cL_until 2 = .ok (.aload_n 0, 1) := by decide +kernel
theorem dL_until_3 : decode cL_until 3 = .ok (.iload_n 1, 1) := by decide +kernel
theorem dL_until_4 : decode cL_until 4 = .ok (.invokevirtual 53, 3) := by decide +kernel
theorem dL_until_7 : decode cL_until 7 = .ok (.i2l, 1) := by decide +kernel
theorem dL_until_8 : decode cL_until 8 = .ok (.lastore, 1) := by decide +kernel
theorem dL_until_9 : decode cL_until 9 = .ok (.goto 6, 3) := by decide +kernel
theorem dL_until_12 : decode cL_until 12 = .ok (.astore_n 3, 1) := by decide +kernel
theorem dL_until_13 : decode cL_until 13 = .ok (.iconst 1, 1) := by decide +kernel
theorem dL_until_14 : decode cL_until 14 = .ok (.ireturn, 1) := by decide +kernel
theorem dL_until_15 : decode cL_until 15 = .ok (.iconst 0, 1) := by decide +kernel
theorem dL_until_16 : decode cL_until 16 = .ok (.ireturn, 1) := by decide +kernel
theorem dL_foresee_0 : decode cL_foresee 0 = .ok (.aload_n 3, 1) := by decide +kernel
theorem dL_foresee_1 : decode cL_foresee 1 = .ok (.iconst 0, 1) := by decide +kernel
theorem dL_foresee_2 : decode cL_foresee 2 = .ok (.aload_n 0, 1) := by decide +kernel
theorem dL_foresee_3 : decode cL_foresee 3 = .ok (.iload_n 1, 1) := by decide +kernel
theorem dL_foresee_4 : decode cL_foresee 4 = .ok (.iload_n 2, 1) := by decide +kernel
theorem dL_foresee_5 : decode cL_foresee 5 = .ok (.invokevirtual 56, 3) := by decide +kernel
theorem dL_foresee_8 : decode cL_foresee 8 = .ok (.i2l, 1) := by decide +kernel
theorem dL_foresee_9 : decode cL_foresee 9 = .ok (.lastore, 1) := by decide +kernel
theorem dL_foresee_10 : decode cL_foresee 10 = .ok (.goto 11, 3) := by decide +kernel
theorem dL_foresee_13 : decode cL_foresee 13 = .ok (.astore 4, 2) := by decide +kernel
theorem dL_foresee_15 : decode cL_foresee 15 = .ok (.iconst 1, 1) := by decide +kernel
theorem dL_foresee_16 : decode cL_foresee 16 = .ok (.ireturn, 1) := by decide +kernel
theorem dL_foresee_17 : decode cL_foresee 17 = .ok (.astore 4, 2) := by decide +kernel
theorem dL_foresee_19 : decode cL_foresee 19 = .ok (.iconst 2, 1) := by decide +kernel
theorem dL_foresee_20 : decode cL_foresee 20 = .ok (.ireturn, 1) := by decide +kernel
theorem dL_foresee_21 : decode cL_foresee 21 = .ok (.iconst 0, 1) := by decide +kernel
theorem dL_foresee_22 : decode cL_foresee 22 = .ok (.ireturn, 1) := by decide +kernel
theorem dL_advise_0 : decode cL_advise 0 = .ok (.aload_n 2, 1) := by decide +kernel
theorem dL_advise_1 : decode cL_advise 1 = .ok (.iconst 0, 1) := by decide +kernel
theorem dL_advise_2 : decode cL_advise 2 = .ok (.aload_n 0, 1) := by decide +kernel
theorem dL_advise_3 : decode cL_advise 3 = .ok (.iload_n 1, 1) := by decide +kernel
theorem dL_advise_4 : decode cL_advise 4 = .ok (.invokevirtual 59, 3) := by decide +kernel
theorem dL_advise_7 : decode cL_advise 7 = .ok (.i2l, 1) := by decide +kernel
theorem dL_advise_8 : decode cL_advise 8 = .ok (.lastore, 1) := by decide +kernel
theorem dL_advise_9 : decode cL_advise 9 = .ok (.goto 6, 3) := by decide +kernel
theorem dL_advise_12 : decode cL_advise 12 = .ok (.astore_n 3, 1) := by decide +kernel
theorem dL_advise_13 : decode cL_advise 13 = .ok (.iconst 1, 1) := by decide +kernel
theorem dL_advise_14 : decode cL_advise 14 = .ok (.ireturn, 1) := by decide +kernel
theorem dL_advise_15 : decode cL_advise 15 = .ok (.iconst 0, 1) := by decide +kernel
theorem dL_advise_16 : decode cL_advise 16 = .ok (.ireturn, 1) := by decide +kernel
theorem dL_law_0 : decode cL_law 0 = .ok (.new 8, 3) := by decide +kernel
theorem dL_law_3 : decode cL_law 3 = .ok (.dup, 1) := by decide +kernel
theorem dL_law_4 : decode cL_law 4 = .ok (.invokespecial 62, 3) := by decide +kernel
theorem dL_law_7 : decode cL_law 7 = .ok (.astore_n 1, 1) := by decide +kernel
theorem dL_law_8 : decode cL_law 8 = .ok (.new 63, 3) := by decide +kernel
theorem dL_law_11 : decode cL_law 11 = .ok (.dup, 1) := by decide +kernel
theorem dL_law_12 : decode cL_law 12 = .ok (.invokespecial 65, 3) := by decide +kernel
theorem dL_law_15 : decode cL_law 15 = .ok (.astore_n 2, 1) := by decide +kernel
theorem dL_law_16 : decode cL_law 16 = .ok (.iconst 1, 1) := by decide +kernel
theorem dL_law_17 : decode cL_law 17 = .ok (.newarray .long, 2) := by decide +kernel
theorem dL_law_19 : decode cL_law 19 = .ok (.astore_n 3, 1) := by decide +kernel
theorem dL_law_20 : decode cL_law 20 = .ok (.iconst 0, 1) := by decide +kernel
theorem dL_law_21 : decode cL_law 21 = .ok (.istore 4, 2) := by decide +kernel
theorem dL_law_23 : decode cL_law 23 = .ok (.iload 4, 2) := by decide +kernel
theorem dL_law_25 : decode cL_law 25 = .ok (.aload_n 0, 1) := by decide +kernel
theorem dL_law_26 : decode cL_law 26 = .ok (.arraylength, 1) := by decide +kernel
theorem dL_law_27 : decode cL_law 27 = .ok (.iconst 3, 1) := by decide +kernel
theorem dL_law_28 : decode cL_law 28 = .ok (.isub, 1) := by decide +kernel
theorem dL_law_29 : decode cL_law 29 = .ok (.if_icmp .gt 1081, 3) := by decide +kernel
theorem dL_law_32 : decode cL_law 32 = .ok (.aload_n 0, 1) := by decide +kernel
theorem dL_law_33 : decode cL_law 33 = .ok (.iload 4, 2) := by decide +kernel
theorem dL_law_35 : decode cL_law 35 = .ok (.iaload, 1) := by decide +kernel
theorem dL_law_36 : decode cL_law 36 = .ok (.bipush 31, 2) := by decide +kernel
theorem dL_law_38 : decode cL_law 38 = .ok (.iand, 1) := by decide +kernel
theorem dL_law_39 : decode cL_law 39 = .ok (.tableswitch 1065 0 17 #[85, 141, 209, 265, 321, 389, 445, 513, 581, 649, 705, 761, 774, 830, 886, 954, 1010, 1051], 85) := by decide +kernel
theorem dL_law_124 : decode cL_law 124 = .ok (.aload_n 1, 1) := by decide +kernel
theorem dL_law_125 : decode cL_law 125 = .ok (.aload_n 0, 1) := by decide +kernel
theorem dL_law_126 : decode cL_law 126 = .ok (.iload 4, 2) := by decide +kernel
theorem dL_law_128 : decode cL_law 128 = .ok (.iconst 1, 1) := by decide +kernel
theorem dL_law_129 : decode cL_law 129 = .ok (.iadd, 1) := by decide +kernel
theorem dL_law_130 : decode cL_law 130 = .ok (.iaload, 1) := by decide +kernel
theorem dL_law_131 : decode cL_law 131 = .ok (.aload_n 3, 1) := by decide +kernel
theorem dL_law_132 : decode cL_law 132 = .ok (.invokestatic 66, 3) := by decide +kernel
theorem dL_law_135 : decode cL_law 135 = .ok (.istore 5, 2) := by decide +kernel
theorem dL_law_137 : decode cL_law 137 = .ok (.aload_n 2, 1) := by decide +kernel
theorem dL_law_138 : decode cL_law 138 = .ok (.aload_n 0, 1) := by decide +kernel
theorem dL_law_139 : decode cL_law 139 = .ok (.iload 4, 2) := by decide +kernel
theorem dL_law_141 : decode cL_law 141 = .ok (.iconst 1, 1) := by decide +kernel
theorem dL_law_142 : decode cL_law 142 = .ok (.iadd, 1) := by decide +kernel
theorem dL_law_143 : decode cL_law 143 = .ok (.iaload, 1) := by decide +kernel
theorem dL_law_144 : decode cL_law 144 = .ok (.invokevirtual 71, 3) := by decide +kernel
theorem dL_law_147 : decode cL_law 147 = .ok (.istore 6, 2) := by decide +kernel
theorem dL_law_149 : decode cL_law 149 = .ok (.aload_n 2, 1) := by decide +kernel
theorem dL_law_150 : decode cL_law 150 = .ok (.invokevirtual 72, 3) := by decide +kernel
theorem dL_law_153 : decode cL_law 153 = .ok (.iload 5, 2) := by decide +kernel
theorem dL_law_155 : decode cL_law 155 = .ok (.if_icmp .eq 5, 3) := by decide +kernel
theorem dL_law_158 : decode cL_law 158 = .ok (.iconst 0, 1) := by decide +kernel
theorem dL_law_159 : decode cL_law 159 = .ok (.ireturn, 1) := by decide +kernel
theorem dL_law_160 : decode cL_law 160 = .ok (.iload 5, 2) := by decide +kernel
theorem dL_law_162 : decode cL_law 162 = .ok (.ifCond .ne 15, 3) := by decide +kernel
theorem dL_law_165 : decode cL_law 165 = .ok (.aload_n 3, 1) := by decide +kernel
theorem dL_law_166 : decode cL_law 166 = .ok (.iconst 0, 1) := by decide +kernel
theorem dL_law_167 : decode cL_law 167 = .ok (.laload, 1) := by decide +kernel
theorem dL_law_168 : decode cL_law 168 = .ok (.iload 6, 2) := by decide +kernel
theorem dL_law_170 : decode cL_law 170 = .ok (.i2l, 1) := by decide +kernel
theorem dL_law_171 : decode cL_law 171 = .ok (.lcmp, 1) := by decide +kernel
theorem dL_law_172 : decode cL_law 172 = .ok (.ifCond .eq 5, 3) := by decide +kernel
theorem dL_law_175 : decode cL_law 175 = .ok (.iconst 0, 1) := by decide +kernel
theorem dL_law_176 : decode cL_law 176 = .ok (.ireturn, 1) := by decide +kernel
theorem dL_law_177 : decode cL_law 177 = .ok (.goto 927, 3) := by decide +kernel
theorem dL_law_180 : decode cL_law 180 = .ok (.aload_n 1, 1) := by decide +kernel
theorem dL_law_181 : decode cL_law 181 = .ok (.aload_n 0, 1) := by decide +kernel
theorem dL_law_182 : decode cL_law 182 = .ok (.iload 4, 2) := by decide +kernel
theorem dL_law_184 : decode cL_law 184 = .ok (.iconst 1, 1) := by decide +kernel
theorem dL_law_185 : decode cL_law 185 = .ok (.iadd, 1) := by decide +kernel
theorem dL_law_186 : decode cL_law 186 = .ok (.iaload, 1) := by decide +kernel
theorem dL_law_187 : decode cL_law 187 = .ok (.aload_n 0, 1) := by decide +kernel
theorem dL_law_188 : decode cL_law 188 = .ok (.iload 4, 2) := by decide +kernel
theorem dL_law_190 : decode cL_law 190 = .ok (.iconst 2, 1) := by decide +kernel
theorem dL_law_191 : decode cL_law 191 = .ok (.iadd, 1) := by decide +kernel
theorem dL_law_192 : decode cL_law 192 = .ok (.iaload, 1) := by decide +kernel
theorem dL_law_193 : decode cL_law 193 = .ok (.aload_n 3, 1) := by decide +kernel
theorem dL_law_194 : decode cL_law 194 = .ok (.invokestatic 76, 3) := by decide +kernel
theorem dL_law_197 : decode cL_law 197 = .ok (.istore 5, 2) := by decide +kernel
theorem dL_law_199 : decode cL_law 199 = .ok (.aload_n 2, 1) := by decide +kernel
theorem dL_law_200 : decode cL_law 200 = .ok (.aload_n 0, 1) := by decide +kernel
theorem dL_law_201 : decode cL_law 201 = .ok (.iload 4, 2) := by decide +kernel
theorem dL_law_203 : decode cL_law 203 = .ok (.iconst 1, 1) := by decide +kernel
theorem dL_law_204 : decode cL_law 204 = .ok (.iadd, 1) := by decide +kernel
theorem dL_law_205 : decode cL_law 205 = .ok (.iaload, 1) := by decide +kernel
theorem dL_law_206 : decode cL_law 206 = .ok (.aload_n 0, 1) := by decide +kernel
theorem dL_law_207 : decode cL_law 207 = .ok (.iload 4, 2) := by decide +kernel
theorem dL_law_209 : decode cL_law 209 = .ok (.iconst 2, 1) := by decide +kernel
theorem dL_law_210 : decode cL_law 210 = .ok (.iadd, 1) := by decide +kernel
theorem dL_law_211 : decode cL_law 211 = .ok (.iaload, 1) := by decide +kernel
theorem dL_law_212 : decode cL_law 212 = .ok (.invokevirtual 79, 3) := by decide +kernel
theorem dL_law_215 : decode cL_law 215 = .ok (.istore 6, 2) := by decide +kernel
theorem dL_law_217 : decode cL_law 217 = .ok (.aload_n 2, 1) := by decide +kernel
theorem dL_law_218 : decode cL_law 218 = .ok (.invokevirtual 72, 3) := by decide +kernel
theorem dL_law_221 : decode cL_law 221 = .ok (.iload 5, 2) := by decide +kernel
theorem dL_law_223 : decode cL_law 223 = .ok (.if_icmp .eq 5, 3) := by decide +kernel
theorem dL_law_226 : decode cL_law 226 = .ok (.iconst 0, 1) := by decide +kernel
theorem dL_law_227 : decode cL_law 227 = .ok (.ireturn, 1) := by decide +kernel
theorem dL_law_228 : decode cL_law 228 = .ok (.iload 5, 2) := by decide +kernel
theorem dL_law_230 : decode cL_law 230 = .ok (.ifCond .ne 15, 3) := by decide +kernel
theorem dL_law_233 : decode cL_law 233 = .ok (.aload_n 3, 1) := by decide +kernel
theorem dL_law_234 : decode cL_law 234 = .ok (.iconst 0, 1) := by decide +kernel
theorem dL_law_235 : decode cL_law 235 = .ok (.laload, 1) := by decide +kernel
theorem dL_law_236 : decode cL_law 236 = .ok (.iload 6, 2) := by decide +kernel
theorem dL_law_238 : decode cL_law 238 = .ok (.i2l, 1) := by decide +kernel
theorem dL_law_239 : decode cL_law 239 = .ok (.lcmp, 1) := by decide +kernel
theorem dL_law_240 : decode cL_law 240 = .ok (.ifCond .eq 5, 3) := by decide +kernel
theorem dL_law_243 : decode cL_law 243 = .ok (.iconst 0, 1) := by decide +kernel
theorem dL_law_244 : decode cL_law 244 = .ok (.ireturn, 1) := by decide +kernel
theorem dL_law_245 : decode cL_law 245 = .ok (.goto 859, 3) := by decide +kernel
theorem dL_law_248 : decode cL_law 248 = .ok (.aload_n 1, 1) := by decide +kernel
theorem dL_law_249 : decode cL_law 249 = .ok (.aload_n 0, 1) := by decide +kernel
theorem dL_law_250 : decode cL_law 250 = .ok (.iload 4, 2) := by decide +kernel
theorem dL_law_252 : decode cL_law 252 = .ok (.iconst 1, 1) := by decide +kernel
theorem dL_law_253 : decode cL_law 253 = .ok (.iadd, 1) := by decide +kernel
theorem dL_law_254 : decode cL_law 254 = .ok (.iaload, 1) := by decide +kernel
theorem dL_law_255 : decode cL_law 255 = .ok (.aload_n 3, 1) := by decide +kernel
theorem dL_law_256 : decode cL_law 256 = .ok (.invokestatic 80, 3) := by decide +kernel
theorem dL_law_259 : decode cL_law 259 = .ok (.istore 5, 2) := by decide +kernel
theorem dL_law_261 : decode cL_law 261 = .ok (.aload_n 2, 1) := by decide +kernel
theorem dL_law_262 : decode cL_law 262 = .ok (.aload_n 0, 1) := by decide +kernel
theorem dL_law_263 : decode cL_law 263 = .ok (.iload 4, 2) := by decide +kernel
theorem dL_law_265 : decode cL_law 265 = .ok (.iconst 1, 1) := by decide +kernel
theorem dL_law_266 : decode cL_law 266 = .ok (.iadd, 1) := by decide +kernel
theorem dL_law_267 : decode cL_law 267 = .ok (.iaload, 1) := by decide +kernel
theorem dL_law_268 : decode cL_law 268 = .ok (.invokevirtual 82, 3) := by decide +kernel
theorem dL_law_271 : decode cL_law 271 = .ok (.istore 6, 2) := by decide +kernel
theorem dL_law_273 : decode cL_law 273 = .ok (.aload_n 2, 1) := by decide +kernel
theorem dL_law_274 : decode cL_law 274 = .ok (.invokevirtual 72, 3) := by decide +kernel
theorem dL_law_277 : decode cL_law 277 = .ok (.iload 5, 2) := by decide +kernel
theorem dL_law_279 : decode cL_law 279 = .ok (.if_icmp .eq 5, 3) := by decide +kernel
theorem dL_law_282 : decode cL_law 282 = .ok (.iconst 0, 1) := by decide +kernel
theorem dL_law_283 : decode cL_law 283 = .ok (.ireturn, 1) := by decide +kernel
theorem dL_law_284 : decode cL_law 284 = .ok (.iload 5, 2) := by decide +kernel
theorem dL_law_286 : decode cL_law 286 = .ok (.ifCond .ne 15, 3) := by decide +kernel
theorem dL_law_289 : decode cL_law 289 = .ok (.aload_n 3, 1) := by decide +kernel
theorem dL_law_290 : decode cL_law 290 = .ok (.iconst 0, 1) := by decide +kernel
theorem dL_law_291 : decode cL_law 291 = .ok (.laload, 1) := by decide +kernel
theorem dL_law_292 : decode cL_law 292 = .ok (.iload 6, 2) := by decide +kernel
theorem dL_law_294 : decode cL_law 294 = .ok (.i2l, 1) := by decide +kernel
theorem dL_law_295 : decode cL_law 295 = .ok (.lcmp, 1) := by decide +kernel
theorem dL_law_296 : decode cL_law 296 = .ok (.ifCond .eq 5, 3) := by decide +kernel
theorem dL_law_299 : decode cL_law 299 = .ok (.iconst 0, 1) := by decide +kernel
theorem dL_law_300 : decode cL_law 300 = .ok (.ireturn, 1) := by decide +kernel
theorem dL_law_301 : decode cL_law 301 = .ok (.goto 803, 3) := by decide +kernel
theorem dL_law_304 : decode cL_law 304 = .ok (.aload_n 1, 1) := by decide +kernel
theorem dL_law_305 : decode cL_law 305 = .ok (.aload_n 0, 1) := by decide +kernel
theorem dL_law_306 : decode cL_law 306 = .ok (.iload 4, 2) := by decide +kernel
theorem dL_law_308 : decode cL_law 308 = .ok (.iconst 1, 1) := by decide +kernel
theorem dL_law_309 : decode cL_law 309 = .ok (.iadd, 1) := by decide +kernel
theorem dL_law_310 : decode cL_law 310 = .ok (.iaload, 1) := by decide +kernel
theorem dL_law_311 : decode cL_law 311 = .ok (.aload_n 3, 1) := by decide +kernel
theorem dL_law_312 : decode cL_law 312 = .ok (.invokestatic 83, 3) := by decide +kernel
theorem dL_law_315 : decode cL_law 315 = .ok (.istore 5, 2) := by decide +kernel
theorem dL_law_317 : decode cL_law 317 = .ok (.aload_n 2, 1) := by decide +kernel
theorem dL_law_318 : decode cL_law 318 = .ok (.aload_n 0, 1) := by decide +kernel
theorem dL_law_319 : decode cL_law 319 = .ok (.iload 4, 2) := by decide +kernel
theorem dL_law_321 : decode cL_law 321 = .ok (.iconst 1, 1) := by decide +kernel
theorem dL_law_322 : decode cL_law 322 = .ok (.iadd, 1) := by decide +kernel
theorem dL_law_323 : decode cL_law 323 = .ok (.iaload, 1) := by decide +kernel
theorem dL_law_324 : decode cL_law 324 = .ok (.invokevirtual 85, 3) := by decide +kernel
theorem dL_law_327 : decode cL_law 327 = .ok (.istore 6, 2) := by decide +kernel
theorem dL_law_329 : decode cL_law 329 = .ok (.aload_n 2, 1) := by decide +kernel
theorem dL_law_330 : decode cL_law 330 = .ok (.invokevirtual 72, 3) := by decide +kernel
theorem dL_law_333 : decode cL_law 333 = .ok (.iload 5, 2) := by decide +kernel
theorem dL_law_335 : decode cL_law 335 = .ok (.if_icmp .eq 5, 3) := by decide +kernel
theorem dL_law_338 : decode cL_law 338 = .ok (.iconst 0, 1) := by decide +kernel
theorem dL_law_339 : decode cL_law 339 = .ok (.ireturn, 1) := by decide +kernel
theorem dL_law_340 : decode cL_law 340 = .ok (.iload 5, 2) := by decide +kernel
theorem dL_law_342 : decode cL_law 342 = .ok (.ifCond .ne 15, 3) := by decide +kernel
theorem dL_law_345 : decode cL_law 345 = .ok (.aload_n 3, 1) := by decide +kernel
theorem dL_law_346 : decode cL_law 346 = .ok (.iconst 0, 1) := by decide +kernel
theorem dL_law_347 : decode cL_law 347 = .ok (.laload, 1) := by decide +kernel
theorem dL_law_348 : decode cL_law 348 = .ok (.iload 6, 2) := by decide +kernel
theorem dL_law_350 : decode cL_law 350 = .ok (.i2l, 1) := by decide +kernel
theorem dL_law_351 : decode cL_law 351 = .ok (.lcmp, 1) := by decide +kernel
theorem dL_law_352 : decode cL_law 352 = .ok (.ifCond .eq 5, 3) := by decide +kernel
theorem dL_law_355 : decode cL_law 355 = .ok (.iconst 0, 1) := by decide +kernel
theorem dL_law_356 : decode cL_law 356 = .ok (.ireturn, 1) := by decide +kernel
theorem dL_law_357 : decode cL_law 357 = .ok (.goto 747, 3) := by decide +kernel
theorem dL_law_360 : decode cL_law 360 = .ok (.aload_n 1, 1) := by decide +kernel
theorem dL_law_361 : decode cL_law 361 = .ok (.aload_n 0, 1) := by decide +kernel
theorem dL_law_362 : decode cL_law 362 = .ok (.iload 4, 2) := by decide +kernel
theorem dL_law_364 : decode cL_law 364 = .ok (.iconst 1, 1) := by decide +kernel
theorem dL_law_365 : decode cL_law 365 = .ok (.iadd, 1) := by decide +kernel
theorem dL_law_366 : decode cL_law 366 = .ok (.iaload, 1) := by decide +kernel
theorem dL_law_367 : decode cL_law 367 = .ok (.aload_n 0, 1) := by decide +kernel
theorem dL_law_368 : decode cL_law 368 = .ok (.iload 4, 2) := by decide +kernel
theorem dL_law_370 : decode cL_law 370 = .ok (.iconst 2, 1) := by decide +kernel
theorem dL_law_371 : decode cL_law 371 = .ok (.iadd, 1) := by decide +kernel
theorem dL_law_372 : decode cL_law 372 = .ok (.iaload, 1) := by decide +kernel
theorem dL_law_373 : decode cL_law 373 = .ok (.aload_n 3, 1) := by decide +kernel
theorem dL_law_374 : decode cL_law 374 = .ok (.invokestatic 86, 3) := by decide +kernel
theorem dL_law_377 : decode cL_law 377 = .ok (.istore 5, 2) := by decide +kernel
theorem dL_law_379 : decode cL_law 379 = .ok (.aload_n 2, 1) := by decide +kernel
theorem dL_law_380 : decode cL_law 380 = .ok (.aload_n 0, 1) := by decide +kernel
theorem dL_law_381 : decode cL_law 381 = .ok (.iload 4, 2) := by decide +kernel
theorem dL_law_383 : decode cL_law 383 = .ok (.iconst 1, 1) := by decide +kernel
theorem dL_law_384 : decode cL_law 384 = .ok (.iadd, 1) := by decide +kernel
theorem dL_law_385 : decode cL_law 385 = .ok (.iaload, 1) := by decide +kernel
theorem dL_law_386 : decode cL_law 386 = .ok (.aload_n 0, 1) := by decide +kernel
theorem dL_law_387 : decode cL_law 387 = .ok (.iload 4, 2) := by decide +kernel
theorem dL_law_389 : decode cL_law 389 = .ok (.iconst 2, 1) := by decide +kernel
theorem dL_law_390 : decode cL_law 390 = .ok (.iadd, 1) := by decide +kernel
theorem dL_law_391 : decode cL_law 391 = .ok (.iaload, 1) := by decide +kernel
theorem dL_law_392 : decode cL_law 392 = .ok (.invokevirtual 88, 3) := by decide +kernel
theorem dL_law_395 : decode cL_law 395 = .ok (.istore 6, 2) := by decide +kernel
theorem dL_law_397 : decode cL_law 397 = .ok (.aload_n 2, 1) := by decide +kernel
theorem dL_law_398 : decode cL_law 398 = .ok (.invokevirtual 72, 3) := by decide +kernel
theorem dL_law_401 : decode cL_law 401 = .ok (.iload 5, 2) := by decide +kernel
theorem dL_law_403 : decode cL_law 403 = .ok (.if_icmp .eq 5, 3) := by decide +kernel
theorem dL_law_406 : decode cL_law 406 = .ok (.iconst 0, 1) := by decide +kernel
theorem dL_law_407 : decode cL_law 407 = .ok (.ireturn, 1) := by decide +kernel
theorem dL_law_408 : decode cL_law 408 = .ok (.iload 5, 2) := by decide +kernel
theorem dL_law_410 : decode cL_law 410 = .ok (.ifCond .ne 15, 3) := by decide +kernel
theorem dL_law_413 : decode cL_law 413 = .ok (.aload_n 3, 1) := by decide +kernel
theorem dL_law_414 : decode cL_law 414 = .ok (.iconst 0, 1) := by decide +kernel
theorem dL_law_415 : decode cL_law 415 = .ok (.laload, 1) := by decide +kernel
theorem dL_law_416 : decode cL_law 416 = .ok (.iload 6, 2) := by decide +kernel
theorem dL_law_418 : decode cL_law 418 = .ok (.i2l, 1) := by decide +kernel
theorem dL_law_419 : decode cL_law 419 = .ok (.lcmp, 1) := by decide +kernel
theorem dL_law_420 : decode cL_law 420 = .ok (.ifCond .eq 5, 3) := by decide +kernel
theorem dL_law_423 : decode cL_law 423 = .ok (.iconst 0, 1) := by decide +kernel
theorem dL_law_424 : decode cL_law 424 = .ok (.ireturn, 1) := by decide +kernel
theorem dL_law_425 : decode cL_law 425 = .ok (.goto 679, 3) := by decide +kernel
theorem dL_law_428 : decode cL_law 428 = .ok (.aload_n 1, 1) := by decide +kernel
theorem dL_law_429 : decode cL_law 429 = .ok (.aload_n 0, 1) := by decide +kernel
theorem dL_law_430 : decode cL_law 430 = .ok (.iload 4, 2) := by decide +kernel
theorem dL_law_432 : decode cL_law 432 = .ok (.iconst 1, 1) := by decide +kernel
theorem dL_law_433 : decode cL_law 433 = .ok (.iadd, 1) := by decide +kernel
theorem dL_law_434 : decode cL_law 434 = .ok (.iaload, 1) := by decide +kernel
theorem dL_law_435 : decode cL_law 435 = .ok (.aload_n 3, 1) := by decide +kernel
theorem dL_law_436 : decode cL_law 436 = .ok (.invokestatic 89, 3) := by decide +kernel
theorem dL_law_439 : decode cL_law 439 = .ok (.istore 5, 2) := by decide +kernel
theorem dL_law_441 : decode cL_law 441 = .ok (.aload_n 2, 1) := by decide +kernel
theorem dL_law_442 : decode cL_law 442 = .ok (.aload_n 0, 1) := by decide +kernel
theorem dL_law_443 : decode cL_law 443 = .ok (.iload 4, 2) := by decide +kernel
theorem dL_law_445 : decode cL_law 445 = .ok (.iconst 1, 1) := by decide +kernel
theorem dL_law_446 : decode cL_law 446 = .ok (.iadd, 1) := by decide +kernel
theorem dL_law_447 : decode cL_law 447 = .ok (.iaload, 1) := by decide +kernel
theorem dL_law_448 : decode cL_law 448 = .ok (.invokevirtual 91, 3) := by decide +kernel
theorem dL_law_451 : decode cL_law 451 = .ok (.istore 6, 2) := by decide +kernel
theorem dL_law_453 : decode cL_law 453 = .ok (.aload_n 2, 1) := by decide +kernel
theorem dL_law_454 : decode cL_law 454 = .ok (.invokevirtual 72, 3) := by decide +kernel
theorem dL_law_457 : decode cL_law 457 = .ok (.iload 5, 2) := by decide +kernel
theorem dL_law_459 : decode cL_law 459 = .ok (.if_icmp .eq 5, 3) := by decide +kernel
theorem dL_law_462 : decode cL_law 462 = .ok (.iconst 0, 1) := by decide +kernel
theorem dL_law_463 : decode cL_law 463 = .ok (.ireturn, 1) := by decide +kernel
theorem dL_law_464 : decode cL_law 464 = .ok (.iload 5, 2) := by decide +kernel
theorem dL_law_466 : decode cL_law 466 = .ok (.ifCond .ne 15, 3) := by decide +kernel
theorem dL_law_469 : decode cL_law 469 = .ok (.aload_n 3, 1) := by decide +kernel
theorem dL_law_470 : decode cL_law 470 = .ok (.iconst 0, 1) := by decide +kernel
theorem dL_law_471 : decode cL_law 471 = .ok (.laload, 1) := by decide +kernel
theorem dL_law_472 : decode cL_law 472 = .ok (.iload 6, 2) := by decide +kernel
theorem dL_law_474 : decode cL_law 474 = .ok (.i2l, 1) := by decide +kernel
theorem dL_law_475 : decode cL_law 475 = .ok (.lcmp, 1) := by decide +kernel
theorem dL_law_476 : decode cL_law 476 = .ok (.ifCond .eq 5, 3) := by decide +kernel
theorem dL_law_479 : decode cL_law 479 = .ok (.iconst 0, 1) := by decide +kernel
theorem dL_law_480 : decode cL_law 480 = .ok (.ireturn, 1) := by decide +kernel
theorem dL_law_481 : decode cL_law 481 = .ok (.goto 623, 3) := by decide +kernel
theorem dL_law_484 : decode cL_law 484 = .ok (.aload_n 1, 1) := by decide +kernel
theorem dL_law_485 : decode cL_law 485 = .ok (.aload_n 0, 1) := by decide +kernel
theorem dL_law_486 : decode cL_law 486 = .ok (.iload 4, 2) := by decide +kernel
theorem dL_law_488 : decode cL_law 488 = .ok (.iconst 1, 1) := by decide +kernel
theorem dL_law_489 : decode cL_law 489 = .ok (.iadd, 1) := by decide +kernel
theorem dL_law_490 : decode cL_law 490 = .ok (.iaload, 1) := by decide +kernel
theorem dL_law_491 : decode cL_law 491 = .ok (.aload_n 0, 1) := by decide +kernel
theorem dL_law_492 : decode cL_law 492 = .ok (.iload 4, 2) := by decide +kernel
theorem dL_law_494 : decode cL_law 494 = .ok (.iconst 2, 1) := by decide +kernel
theorem dL_law_495 : decode cL_law 495 = .ok (.iadd, 1) := by decide +kernel
theorem dL_law_496 : decode cL_law 496 = .ok (.iaload, 1) := by decide +kernel
theorem dL_law_497 : decode cL_law 497 = .ok (.aload_n 3, 1) := by decide +kernel
theorem dL_law_498 : decode cL_law 498 = .ok (.invokestatic 92, 3) := by decide +kernel
theorem dL_law_501 : decode cL_law 501 = .ok (.istore 5, 2) := by decide +kernel
theorem dL_law_503 : decode cL_law 503 = .ok (.aload_n 2, 1) := by decide +kernel
theorem dL_law_504 : decode cL_law 504 = .ok (.aload_n 0, 1) := by decide +kernel
theorem dL_law_505 : decode cL_law 505 = .ok (.iload 4, 2) := by decide +kernel
theorem dL_law_507 : decode cL_law 507 = .ok (.iconst 1, 1) := by decide +kernel
theorem dL_law_508 : decode cL_law 508 = .ok (.iadd, 1) := by decide +kernel
theorem dL_law_509 : decode cL_law 509 = .ok (.iaload, 1) := by decide +kernel
theorem dL_law_510 : decode cL_law 510 = .ok (.aload_n 0, 1) := by decide +kernel
theorem dL_law_511 : decode cL_law 511 = .ok (.iload 4, 2) := by decide +kernel
theorem dL_law_513 : decode cL_law 513 = .ok (.iconst 2, 1) := by decide +kernel
theorem dL_law_514 : decode cL_law 514 = .ok (.iadd, 1) := by decide +kernel
theorem dL_law_515 : decode cL_law 515 = .ok (.iaload, 1) := by decide +kernel
theorem dL_law_516 : decode cL_law 516 = .ok (.invokevirtual 94, 3) := by decide +kernel
theorem dL_law_519 : decode cL_law 519 = .ok (.istore 6, 2) := by decide +kernel
theorem dL_law_521 : decode cL_law 521 = .ok (.aload_n 2, 1) := by decide +kernel
theorem dL_law_522 : decode cL_law 522 = .ok (.invokevirtual 72, 3) := by decide +kernel
theorem dL_law_525 : decode cL_law 525 = .ok (.iload 5, 2) := by decide +kernel
theorem dL_law_527 : decode cL_law 527 = .ok (.if_icmp .eq 5, 3) := by decide +kernel
theorem dL_law_530 : decode cL_law 530 = .ok (.iconst 0, 1) := by decide +kernel
theorem dL_law_531 : decode cL_law 531 = .ok (.ireturn, 1) := by decide +kernel
theorem dL_law_532 : decode cL_law 532 = .ok (.iload 5, 2) := by decide +kernel
theorem dL_law_534 : decode cL_law 534 = .ok (.ifCond .ne 15, 3) := by decide +kernel
theorem dL_law_537 : decode cL_law 537 = .ok (.aload_n 3, 1) := by decide +kernel
theorem dL_law_538 : decode cL_law 538 = .ok (.iconst 0, 1) := by decide +kernel
theorem dL_law_539 : decode cL_law 539 = .ok (.laload, 1) := by decide +kernel
theorem dL_law_540 : decode cL_law 540 = .ok (.iload 6, 2) := by decide +kernel
theorem dL_law_542 : decode cL_law 542 = .ok (.i2l, 1) := by decide +kernel
theorem dL_law_543 : decode cL_law 543 = .ok (.lcmp, 1) := by decide +kernel
theorem dL_law_544 : decode cL_law 544 = .ok (.ifCond .eq 5, 3) := by decide +kernel
theorem dL_law_547 : decode cL_law 547 = .ok (.iconst 0, 1) := by decide +kernel
theorem dL_law_548 : decode cL_law 548 = .ok (.ireturn, 1) := by decide +kernel
theorem dL_law_549 : decode cL_law 549 = .ok (.goto 555, 3) := by decide +kernel
theorem dL_law_552 : decode cL_law 552 = .ok (.aload_n 1, 1) := by decide +kernel
theorem dL_law_553 : decode cL_law 553 = .ok (.aload_n 0, 1) := by decide +kernel
theorem dL_law_554 : decode cL_law 554 = .ok (.iload 4, 2) := by decide +kernel
theorem dL_law_556 : decode cL_law 556 = .ok (.iconst 1, 1) := by decide +kernel
theorem dL_law_557 : decode cL_law 557 = .ok (.iadd, 1) := by decide +kernel
theorem dL_law_558 : decode cL_law 558 = .ok (.iaload, 1) := by decide +kernel
theorem dL_law_559 : decode cL_law 559 = .ok (.aload_n 0, 1) := by decide +kernel
theorem dL_law_560 : decode cL_law 560 = .ok (.iload 4, 2) := by decide +kernel
theorem dL_law_562 : decode cL_law 562 = .ok (.iconst 2, 1) := by decide +kernel
theorem dL_law_563 : decode cL_law 563 = .ok (.iadd, 1) := by decide +kernel
theorem dL_law_564 : decode cL_law 564 = .ok (.iaload, 1) := by decide +kernel
theorem dL_law_565 : decode cL_law 565 = .ok (.aload_n 3, 1) := by decide +kernel
theorem dL_law_566 : decode cL_law 566 = .ok (.invokestatic 95, 3) := by decide +kernel
theorem dL_law_569 : decode cL_law 569 = .ok (.istore 5, 2) := by decide +kernel
theorem dL_law_571 : decode cL_law 571 = .ok (.aload_n 2, 1) := by decide +kernel
theorem dL_law_572 : decode cL_law 572 = .ok (.aload_n 0, 1) := by decide +kernel
theorem dL_law_573 : decode cL_law 573 = .ok (.iload 4, 2) := by decide +kernel
theorem dL_law_575 : decode cL_law 575 = .ok (.iconst 1, 1) := by decide +kernel
theorem dL_law_576 : decode cL_law 576 = .ok (.iadd, 1) := by decide +kernel
theorem dL_law_577 : decode cL_law 577 = .ok (.iaload, 1) := by decide +kernel
theorem dL_law_578 : decode cL_law 578 = .ok (.aload_n 0, 1) := by decide +kernel
theorem dL_law_579 : decode cL_law 579 = .ok (.iload 4, 2) := by decide +kernel
theorem dL_law_581 : decode cL_law 581 = .ok (.iconst 2, 1) := by decide +kernel
theorem dL_law_582 : decode cL_law 582 = .ok (.iadd, 1) := by decide +kernel
theorem dL_law_583 : decode cL_law 583 = .ok (.iaload, 1) := by decide +kernel
theorem dL_law_584 : decode cL_law 584 = .ok (.invokevirtual 97, 3) := by decide +kernel
theorem dL_law_587 : decode cL_law 587 = .ok (.istore 6, 2) := by decide +kernel
theorem dL_law_589 : decode cL_law 589 = .ok (.aload_n 2, 1) := by decide +kernel
theorem dL_law_590 : decode cL_law 590 = .ok (.invokevirtual 72, 3) := by decide +kernel
theorem dL_law_593 : decode cL_law 593 = .ok (.iload 5, 2) := by decide +kernel
theorem dL_law_595 : decode cL_law 595 = .ok (.if_icmp .eq 5, 3) := by decide +kernel
theorem dL_law_598 : decode cL_law 598 = .ok (.iconst 0, 1) := by decide +kernel
theorem dL_law_599 : decode cL_law 599 = .ok (.ireturn, 1) := by decide +kernel
theorem dL_law_600 : decode cL_law 600 = .ok (.iload 5, 2) := by decide +kernel
theorem dL_law_602 : decode cL_law 602 = .ok (.ifCond .ne 15, 3) := by decide +kernel
theorem dL_law_605 : decode cL_law 605 = .ok (.aload_n 3, 1) := by decide +kernel
theorem dL_law_606 : decode cL_law 606 = .ok (.iconst 0, 1) := by decide +kernel
theorem dL_law_607 : decode cL_law 607 = .ok (.laload, 1) := by decide +kernel
theorem dL_law_608 : decode cL_law 608 = .ok (.iload 6, 2) := by decide +kernel
theorem dL_law_610 : decode cL_law 610 = .ok (.i2l, 1) := by decide +kernel
theorem dL_law_611 : decode cL_law 611 = .ok (.lcmp, 1) := by decide +kernel
theorem dL_law_612 : decode cL_law 612 = .ok (.ifCond .eq 5, 3) := by decide +kernel
theorem dL_law_615 : decode cL_law 615 = .ok (.iconst 0, 1) := by decide +kernel
theorem dL_law_616 : decode cL_law 616 = .ok (.ireturn, 1) := by decide +kernel
theorem dL_law_617 : decode cL_law 617 = .ok (.goto 487, 3) := by decide +kernel
theorem dL_law_620 : decode cL_law 620 = .ok (.aload_n 1, 1) := by decide +kernel
theorem dL_law_621 : decode cL_law 621 = .ok (.aload_n 0, 1) := by decide +kernel
theorem dL_law_622 : decode cL_law 622 = .ok (.iload 4, 2) := by decide +kernel
theorem dL_law_624 : decode cL_law 624 = .ok (.iconst 1, 1) := by decide +kernel
theorem dL_law_625 : decode cL_law 625 = .ok (.iadd, 1) := by decide +kernel
theorem dL_law_626 : decode cL_law 626 = .ok (.iaload, 1) := by decide +kernel
theorem dL_law_627 : decode cL_law 627 = .ok (.aload_n 0, 1) := by decide +kernel
theorem dL_law_628 : decode cL_law 628 = .ok (.iload 4, 2) := by decide +kernel
theorem dL_law_630 : decode cL_law 630 = .ok (.iconst 2, 1) := by decide +kernel
theorem dL_law_631 : decode cL_law 631 = .ok (.iadd, 1) := by decide +kernel
theorem dL_law_632 : decode cL_law 632 = .ok (.iaload, 1) := by decide +kernel
theorem dL_law_633 : decode cL_law 633 = .ok (.aload_n 3, 1) := by decide +kernel
theorem dL_law_634 : decode cL_law 634 = .ok (.invokestatic 98, 3) := by decide +kernel
theorem dL_law_637 : decode cL_law 637 = .ok (.istore 5, 2) := by decide +kernel
theorem dL_law_639 : decode cL_law 639 = .ok (.aload_n 2, 1) := by decide +kernel
theorem dL_law_640 : decode cL_law 640 = .ok (.aload_n 0, 1) := by decide +kernel
theorem dL_law_641 : decode cL_law 641 = .ok (.iload 4, 2) := by decide +kernel
theorem dL_law_643 : decode cL_law 643 = .ok (.iconst 1, 1) := by decide +kernel
theorem dL_law_644 : decode cL_law 644 = .ok (.iadd, 1) := by decide +kernel
theorem dL_law_645 : decode cL_law 645 = .ok (.iaload, 1) := by decide +kernel
theorem dL_law_646 : decode cL_law 646 = .ok (.aload_n 0, 1) := by decide +kernel
theorem dL_law_647 : decode cL_law 647 = .ok (.iload 4, 2) := by decide +kernel
theorem dL_law_649 : decode cL_law 649 = .ok (.iconst 2, 1) := by decide +kernel
theorem dL_law_650 : decode cL_law 650 = .ok (.iadd, 1) := by decide +kernel
theorem dL_law_651 : decode cL_law 651 = .ok (.iaload, 1) := by decide +kernel
theorem dL_law_652 : decode cL_law 652 = .ok (.invokevirtual 100, 3) := by decide +kernel
theorem dL_law_655 : decode cL_law 655 = .ok (.istore 6, 2) := by decide +kernel
theorem dL_law_657 : decode cL_law 657 = .ok (.aload_n 2, 1) := by decide +kernel
theorem dL_law_658 : decode cL_law 658 = .ok (.invokevirtual 72, 3) := by decide +kernel
theorem dL_law_661 : decode cL_law 661 = .ok (.iload 5, 2) := by decide +kernel
theorem dL_law_663 : decode cL_law 663 = .ok (.if_icmp .eq 5, 3) := by decide +kernel
theorem dL_law_666 : decode cL_law 666 = .ok (.iconst 0, 1) := by decide +kernel
theorem dL_law_667 : decode cL_law 667 = .ok (.ireturn, 1) := by decide +kernel
theorem dL_law_668 : decode cL_law 668 = .ok (.iload 5, 2) := by decide +kernel
theorem dL_law_670 : decode cL_law 670 = .ok (.ifCond .ne 15, 3) := by decide +kernel
theorem dL_law_673 : decode cL_law 673 = .ok (.aload_n 3, 1) := by decide +kernel
theorem dL_law_674 : decode cL_law 674 = .ok (.iconst 0, 1) := by decide +kernel
theorem dL_law_675 : decode cL_law 675 = .ok (.laload, 1) := by decide +kernel
theorem dL_law_676 : decode cL_law 676 = .ok (.iload 6, 2) := by decide +kernel
theorem dL_law_678 : decode cL_law 678 = .ok (.i2l, 1) := by decide +kernel
theorem dL_law_679 : decode cL_law 679 = .ok (.lcmp, 1) := by decide +kernel
theorem dL_law_680 : decode cL_law 680 = .ok (.ifCond .eq 5, 3) := by decide +kernel
theorem dL_law_683 : decode cL_law 683 = .ok (.iconst 0, 1) := by decide +kernel
theorem dL_law_684 : decode cL_law 684 = .ok (.ireturn, 1) := by decide +kernel
theorem dL_law_685 : decode cL_law 685 = .ok (.goto 419, 3) := by decide +kernel
theorem dL_law_688 : decode cL_law 688 = .ok (.aload_n 1, 1) := by decide +kernel
theorem dL_law_689 : decode cL_law 689 = .ok (.aload_n 0, 1) := by decide +kernel
theorem dL_law_690 : decode cL_law 690 = .ok (.iload 4, 2) := by decide +kernel
theorem dL_law_692 : decode cL_law 692 = .ok (.iconst 1, 1) := by decide +kernel
theorem dL_law_693 : decode cL_law 693 = .ok (.iadd, 1) := by decide +kernel
theorem dL_law_694 : decode cL_law 694 = .ok (.iaload, 1) := by decide +kernel
theorem dL_law_695 : decode cL_law 695 = .ok (.aload_n 3, 1) := by decide +kernel
theorem dL_law_696 : decode cL_law 696 = .ok (.invokestatic 101, 3) := by decide +kernel
theorem dL_law_699 : decode cL_law 699 = .ok (.istore 5, 2) := by decide +kernel
theorem dL_law_701 : decode cL_law 701 = .ok (.aload_n 2, 1) := by decide +kernel
theorem dL_law_702 : decode cL_law 702 = .ok (.aload_n 0, 1) := by decide +kernel
theorem dL_law_703 : decode cL_law 703 = .ok (.iload 4, 2) := by decide +kernel
theorem dL_law_705 : decode cL_law 705 = .ok (.iconst 1, 1) := by decide +kernel
theorem dL_law_706 : decode cL_law 706 = .ok (.iadd, 1) := by decide +kernel
theorem dL_law_707 : decode cL_law 707 = .ok (.iaload, 1) := by decide +kernel
theorem dL_law_708 : decode cL_law 708 = .ok (.invokevirtual 103, 3) := by decide +kernel
theorem dL_law_711 : decode cL_law 711 = .ok (.istore 6, 2) := by decide +kernel
theorem dL_law_713 : decode cL_law 713 = .ok (.aload_n 2, 1) := by decide +kernel
theorem dL_law_714 : decode cL_law 714 = .ok (.invokevirtual 72, 3) := by decide +kernel
theorem dL_law_717 : decode cL_law 717 = .ok (.iload 5, 2) := by decide +kernel
theorem dL_law_719 : decode cL_law 719 = .ok (.if_icmp .eq 5, 3) := by decide +kernel
theorem dL_law_722 : decode cL_law 722 = .ok (.iconst 0, 1) := by decide +kernel
theorem dL_law_723 : decode cL_law 723 = .ok (.ireturn, 1) := by decide +kernel
theorem dL_law_724 : decode cL_law 724 = .ok (.iload 5, 2) := by decide +kernel
theorem dL_law_726 : decode cL_law 726 = .ok (.ifCond .ne 15, 3) := by decide +kernel
theorem dL_law_729 : decode cL_law 729 = .ok (.aload_n 3, 1) := by decide +kernel
theorem dL_law_730 : decode cL_law 730 = .ok (.iconst 0, 1) := by decide +kernel
theorem dL_law_731 : decode cL_law 731 = .ok (.laload, 1) := by decide +kernel
theorem dL_law_732 : decode cL_law 732 = .ok (.iload 6, 2) := by decide +kernel
theorem dL_law_734 : decode cL_law 734 = .ok (.i2l, 1) := by decide +kernel
theorem dL_law_735 : decode cL_law 735 = .ok (.lcmp, 1) := by decide +kernel
theorem dL_law_736 : decode cL_law 736 = .ok (.ifCond .eq 5, 3) := by decide +kernel
theorem dL_law_739 : decode cL_law 739 = .ok (.iconst 0, 1) := by decide +kernel
theorem dL_law_740 : decode cL_law 740 = .ok (.ireturn, 1) := by decide +kernel
theorem dL_law_741 : decode cL_law 741 = .ok (.goto 363, 3) := by decide +kernel
theorem dL_law_744 : decode cL_law 744 = .ok (.aload_n 1, 1) := by decide +kernel
theorem dL_law_745 : decode cL_law 745 = .ok (.aload_n 0, 1) := by decide +kernel
theorem dL_law_746 : decode cL_law 746 = .ok (.iload 4, 2) := by decide +kernel
theorem dL_law_748 : decode cL_law 748 = .ok (.iconst 1, 1) := by decide +kernel
theorem dL_law_749 : decode cL_law 749 = .ok (.iadd, 1) := by decide +kernel
theorem dL_law_750 : decode cL_law 750 = .ok (.iaload, 1) := by decide +kernel
theorem dL_law_751 : decode cL_law 751 = .ok (.aload_n 3, 1) := by decide +kernel
theorem dL_law_752 : decode cL_law 752 = .ok (.invokestatic 104, 3) := by decide +kernel
theorem dL_law_755 : decode cL_law 755 = .ok (.istore 5, 2) := by decide +kernel
theorem dL_law_757 : decode cL_law 757 = .ok (.aload_n 2, 1) := by decide +kernel
theorem dL_law_758 : decode cL_law 758 = .ok (.aload_n 0, 1) := by decide +kernel
theorem dL_law_759 : decode cL_law 759 = .ok (.iload 4, 2) := by decide +kernel
theorem dL_law_761 : decode cL_law 761 = .ok (.iconst 1, 1) := by decide +kernel
theorem dL_law_762 : decode cL_law 762 = .ok (.iadd, 1) := by decide +kernel
theorem dL_law_763 : decode cL_law 763 = .ok (.iaload, 1) := by decide +kernel
theorem dL_law_764 : decode cL_law 764 = .ok (.invokevirtual 106, 3) := by decide +kernel
theorem dL_law_767 : decode cL_law 767 = .ok (.istore 6, 2) := by decide +kernel
theorem dL_law_769 : decode cL_law 769 = .ok (.aload_n 2, 1) := by decide +kernel
theorem dL_law_770 : decode cL_law 770 = .ok (.invokevirtual 72, 3) := by decide +kernel
theorem dL_law_773 : decode cL_law 773 = .ok (.iload 5, 2) := by decide +kernel
theorem dL_law_775 : decode cL_law 775 = .ok (.if_icmp .eq 5, 3) := by decide +kernel
theorem dL_law_778 : decode cL_law 778 = .ok (.iconst 0, 1) := by decide +kernel
theorem dL_law_779 : decode cL_law 779 = .ok (.ireturn, 1) := by decide +kernel
theorem dL_law_780 : decode cL_law 780 = .ok (.iload 5, 2) := by decide +kernel
theorem dL_law_782 : decode cL_law 782 = .ok (.ifCond .ne 15, 3) := by decide +kernel
theorem dL_law_785 : decode cL_law 785 = .ok (.aload_n 3, 1) := by decide +kernel
theorem dL_law_786 : decode cL_law 786 = .ok (.iconst 0, 1) := by decide +kernel
theorem dL_law_787 : decode cL_law 787 = .ok (.laload, 1) := by decide +kernel
theorem dL_law_788 : decode cL_law 788 = .ok (.iload 6, 2) := by decide +kernel
theorem dL_law_790 : decode cL_law 790 = .ok (.i2l, 1) := by decide +kernel
theorem dL_law_791 : decode cL_law 791 = .ok (.lcmp, 1) := by decide +kernel
theorem dL_law_792 : decode cL_law 792 = .ok (.ifCond .eq 5, 3) := by decide +kernel
theorem dL_law_795 : decode cL_law 795 = .ok (.iconst 0, 1) := by decide +kernel
theorem dL_law_796 : decode cL_law 796 = .ok (.ireturn, 1) := by decide +kernel
theorem dL_law_797 : decode cL_law 797 = .ok (.goto 307, 3) := by decide +kernel
theorem dL_law_800 : decode cL_law 800 = .ok (.aload_n 1, 1) := by decide +kernel
theorem dL_law_801 : decode cL_law 801 = .ok (.invokevirtual 107, 3) := by decide +kernel
theorem dL_law_804 : decode cL_law 804 = .ok (.aload_n 2, 1) := by decide +kernel
theorem dL_law_805 : decode cL_law 805 = .ok (.invokevirtual 110, 3) := by decide +kernel
theorem dL_law_808 : decode cL_law 808 = .ok (.if_icmp .eq 296, 3) := by decide +kernel
theorem dL_law_811 : decode cL_law 811 = .ok (.iconst 0, 1) := by decide +kernel
theorem dL_law_812 : decode cL_law 812 = .ok (.ireturn, 1) := by decide +kernel
theorem dL_law_813 : decode cL_law 813 = .ok (.aload_n 1, 1) := by decide +kernel
theorem dL_law_814 : decode cL_law 814 = .ok (.aload_n 0, 1) := by decide +kernel
theorem dL_law_815 : decode cL_law 815 = .ok (.iload 4, 2) := by decide +kernel
theorem dL_law_817 : decode cL_law 817 = .ok (.iconst 1, 1) := by decide +kernel
theorem dL_law_818 : decode cL_law 818 = .ok (.iadd, 1) := by decide +kernel
theorem dL_law_819 : decode cL_law 819 = .ok (.iaload, 1) := by decide +kernel
theorem dL_law_820 : decode cL_law 820 = .ok (.aload_n 3, 1) := by decide +kernel
theorem dL_law_821 : decode cL_law 821 = .ok (.invokestatic 111, 3) := by decide +kernel
theorem dL_law_824 : decode cL_law 824 = .ok (.istore 5, 2) := by decide +kernel
theorem dL_law_826 : decode cL_law 826 = .ok (.aload_n 2, 1) := by decide +kernel
theorem dL_law_827 : decode cL_law 827 = .ok (.aload_n 0, 1) := by decide +kernel
theorem dL_law_828 : decode cL_law 828 = .ok (.iload 4, 2) := by decide +kernel
theorem dL_law_830 : decode cL_law 830 = .ok (.iconst 1, 1) := by decide +kernel
theorem dL_law_831 : decode cL_law 831 = .ok (.iadd, 1) := by decide +kernel
theorem dL_law_832 : decode cL_law 832 = .ok (.iaload, 1) := by decide +kernel
theorem dL_law_833 : decode cL_law 833 = .ok (.invokevirtual 113, 3) := by decide +kernel
theorem dL_law_836 : decode cL_law 836 = .ok (.istore 6, 2) := by decide +kernel
theorem dL_law_838 : decode cL_law 838 = .ok (.aload_n 2, 1) := by decide +kernel
theorem dL_law_839 : decode cL_law 839 = .ok (.invokevirtual 72, 3) := by decide +kernel
theorem dL_law_842 : decode cL_law 842 = .ok (.iload 5, 2) := by decide +kernel
theorem dL_law_844 : decode cL_law 844 = .ok (.if_icmp .eq 5, 3) := by decide +kernel
theorem dL_law_847 : decode cL_law 847 = .ok (.iconst 0, 1) := by decide +kernel
theorem dL_law_848 : decode cL_law 848 = .ok (.ireturn, 1) := by decide +kernel
theorem dL_law_849 : decode cL_law 849 = .ok (.iload 5, 2) := by decide +kernel
theorem dL_law_851 : decode cL_law 851 = .ok (.ifCond .ne 15, 3) := by decide +kernel
theorem dL_law_854 : decode cL_law 854 = .ok (.aload_n 3, 1) := by decide +kernel
theorem dL_law_855 : decode cL_law 855 = .ok (.iconst 0, 1) := by decide +kernel
theorem dL_law_856 : decode cL_law 856 = .ok (.laload, 1) := by decide +kernel
theorem dL_law_857 : decode cL_law 857 = .ok (.iload 6, 2) := by decide +kernel
theorem dL_law_859 : decode cL_law 859 = .ok (.i2l, 1) := by decide +kernel
theorem dL_law_860 : decode cL_law 860 = .ok (.lcmp, 1) := by decide +kernel
theorem dL_law_861 : decode cL_law 861 = .ok (.ifCond .eq 5, 3) := by decide +kernel
theorem dL_law_864 : decode cL_law 864 = .ok (.iconst 0, 1) := by decide +kernel
theorem dL_law_865 : decode cL_law 865 = .ok (.ireturn, 1) := by decide +kernel
theorem dL_law_866 : decode cL_law 866 = .ok (.goto 238, 3) := by decide +kernel
theorem dL_law_869 : decode cL_law 869 = .ok (.aload_n 1, 1) := by decide +kernel
theorem dL_law_870 : decode cL_law 870 = .ok (.aload_n 0, 1) := by decide +kernel
theorem dL_law_871 : decode cL_law 871 = .ok (.iload 4, 2) := by decide +kernel
theorem dL_law_873 : decode cL_law 873 = .ok (.iconst 1, 1) := by decide +kernel
theorem dL_law_874 : decode cL_law 874 = .ok (.iadd, 1) := by decide +kernel
theorem dL_law_875 : decode cL_law 875 = .ok (.iaload, 1) := by decide +kernel
theorem dL_law_876 : decode cL_law 876 = .ok (.aload_n 3, 1) := by decide +kernel
theorem dL_law_877 : decode cL_law 877 = .ok (.invokestatic 114, 3) := by decide +kernel
theorem dL_law_880 : decode cL_law 880 = .ok (.istore 5, 2) := by decide +kernel
theorem dL_law_882 : decode cL_law 882 = .ok (.aload_n 2, 1) := by decide +kernel
theorem dL_law_883 : decode cL_law 883 = .ok (.aload_n 0, 1) := by decide +kernel
theorem dL_law_884 : decode cL_law 884 = .ok (.iload 4, 2) := by decide +kernel
theorem dL_law_886 : decode cL_law 886 = .ok (.iconst 1, 1) := by decide +kernel
theorem dL_law_887 : decode cL_law 887 = .ok (.iadd, 1) := by decide +kernel
theorem dL_law_888 : decode cL_law 888 = .ok (.iaload, 1) := by decide +kernel
theorem dL_law_889 : decode cL_law 889 = .ok (.invokevirtual 116, 3) := by decide +kernel
theorem dL_law_892 : decode cL_law 892 = .ok (.istore 6, 2) := by decide +kernel
theorem dL_law_894 : decode cL_law 894 = .ok (.aload_n 2, 1) := by decide +kernel
theorem dL_law_895 : decode cL_law 895 = .ok (.invokevirtual 72, 3) := by decide +kernel
theorem dL_law_898 : decode cL_law 898 = .ok (.iload 5, 2) := by decide +kernel
theorem dL_law_900 : decode cL_law 900 = .ok (.if_icmp .eq 5, 3) := by decide +kernel
theorem dL_law_903 : decode cL_law 903 = .ok (.iconst 0, 1) := by decide +kernel
theorem dL_law_904 : decode cL_law 904 = .ok (.ireturn, 1) := by decide +kernel
theorem dL_law_905 : decode cL_law 905 = .ok (.iload 5, 2) := by decide +kernel
theorem dL_law_907 : decode cL_law 907 = .ok (.ifCond .ne 15, 3) := by decide +kernel
theorem dL_law_910 : decode cL_law 910 = .ok (.aload_n 3, 1) := by decide +kernel
theorem dL_law_911 : decode cL_law 911 = .ok (.iconst 0, 1) := by decide +kernel
theorem dL_law_912 : decode cL_law 912 = .ok (.laload, 1) := by decide +kernel
theorem dL_law_913 : decode cL_law 913 = .ok (.iload 6, 2) := by decide +kernel
theorem dL_law_915 : decode cL_law 915 = .ok (.i2l, 1) := by decide +kernel
theorem dL_law_916 : decode cL_law 916 = .ok (.lcmp, 1) := by decide +kernel
theorem dL_law_917 : decode cL_law 917 = .ok (.ifCond .eq 5, 3) := by decide +kernel
theorem dL_law_920 : decode cL_law 920 = .ok (.iconst 0, 1) := by decide +kernel
theorem dL_law_921 : decode cL_law 921 = .ok (.ireturn, 1) := by decide +kernel
theorem dL_law_922 : decode cL_law 922 = .ok (.goto 182, 3) := by decide +kernel
theorem dL_law_925 : decode cL_law 925 = .ok (.aload_n 1, 1) := by decide +kernel
theorem dL_law_926 : decode cL_law 926 = .ok (.aload_n 0, 1) := by decide +kernel
theorem dL_law_927 : decode cL_law 927 = .ok (.iload 4, 2) := by decide +kernel
theorem dL_law_929 : decode cL_law 929 = .ok (.iconst 1, 1) := by decide +kernel
theorem dL_law_930 : decode cL_law 930 = .ok (.iadd, 1) := by decide +kernel
theorem dL_law_931 : decode cL_law 931 = .ok (.iaload, 1) := by decide +kernel
theorem dL_law_932 : decode cL_law 932 = .ok (.aload_n 0, 1) := by decide +kernel
theorem dL_law_933 : decode cL_law 933 = .ok (.iload 4, 2) := by decide +kernel
theorem dL_law_935 : decode cL_law 935 = .ok (.iconst 2, 1) := by decide +kernel
theorem dL_law_936 : decode cL_law 936 = .ok (.iadd, 1) := by decide +kernel
theorem dL_law_937 : decode cL_law 937 = .ok (.iaload, 1) := by decide +kernel
theorem dL_law_938 : decode cL_law 938 = .ok (.aload_n 3, 1) := by decide +kernel
theorem dL_law_939 : decode cL_law 939 = .ok (.invokestatic 117, 3) := by decide +kernel
theorem dL_law_942 : decode cL_law 942 = .ok (.istore 5, 2) := by decide +kernel
theorem dL_law_944 : decode cL_law 944 = .ok (.aload_n 2, 1) := by decide +kernel
theorem dL_law_945 : decode cL_law 945 = .ok (.aload_n 0, 1) := by decide +kernel
theorem dL_law_946 : decode cL_law 946 = .ok (.iload 4, 2) := by decide +kernel
theorem dL_law_948 : decode cL_law 948 = .ok (.iconst 1, 1) := by decide +kernel
theorem dL_law_949 : decode cL_law 949 = .ok (.iadd, 1) := by decide +kernel
theorem dL_law_950 : decode cL_law 950 = .ok (.iaload, 1) := by decide +kernel
theorem dL_law_951 : decode cL_law 951 = .ok (.aload_n 0, 1) := by decide +kernel
theorem dL_law_952 : decode cL_law 952 = .ok (.iload 4, 2) := by decide +kernel
theorem dL_law_954 : decode cL_law 954 = .ok (.iconst 2, 1) := by decide +kernel
theorem dL_law_955 : decode cL_law 955 = .ok (.iadd, 1) := by decide +kernel
theorem dL_law_956 : decode cL_law 956 = .ok (.iaload, 1) := by decide +kernel
theorem dL_law_957 : decode cL_law 957 = .ok (.invokevirtual 119, 3) := by decide +kernel
theorem dL_law_960 : decode cL_law 960 = .ok (.istore 6, 2) := by decide +kernel
theorem dL_law_962 : decode cL_law 962 = .ok (.aload_n 2, 1) := by decide +kernel
theorem dL_law_963 : decode cL_law 963 = .ok (.invokevirtual 72, 3) := by decide +kernel
theorem dL_law_966 : decode cL_law 966 = .ok (.iload 5, 2) := by decide +kernel
theorem dL_law_968 : decode cL_law 968 = .ok (.if_icmp .eq 5, 3) := by decide +kernel
theorem dL_law_971 : decode cL_law 971 = .ok (.iconst 0, 1) := by decide +kernel
theorem dL_law_972 : decode cL_law 972 = .ok (.ireturn, 1) := by decide +kernel
theorem dL_law_973 : decode cL_law 973 = .ok (.iload 5, 2) := by decide +kernel
theorem dL_law_975 : decode cL_law 975 = .ok (.ifCond .ne 15, 3) := by decide +kernel
theorem dL_law_978 : decode cL_law 978 = .ok (.aload_n 3, 1) := by decide +kernel
theorem dL_law_979 : decode cL_law 979 = .ok (.iconst 0, 1) := by decide +kernel
theorem dL_law_980 : decode cL_law 980 = .ok (.laload, 1) := by decide +kernel
theorem dL_law_981 : decode cL_law 981 = .ok (.iload 6, 2) := by decide +kernel
theorem dL_law_983 : decode cL_law 983 = .ok (.i2l, 1) := by decide +kernel
theorem dL_law_984 : decode cL_law 984 = .ok (.lcmp, 1) := by decide +kernel
theorem dL_law_985 : decode cL_law 985 = .ok (.ifCond .eq 5, 3) := by decide +kernel
theorem dL_law_988 : decode cL_law 988 = .ok (.iconst 0, 1) := by decide +kernel
theorem dL_law_989 : decode cL_law 989 = .ok (.ireturn, 1) := by decide +kernel
theorem dL_law_990 : decode cL_law 990 = .ok (.goto 114, 3) := by decide +kernel
theorem dL_law_993 : decode cL_law 993 = .ok (.aload_n 1, 1) := by decide +kernel
theorem dL_law_994 : decode cL_law 994 = .ok (.aload_n 0, 1) := by decide +kernel
theorem dL_law_995 : decode cL_law 995 = .ok (.iload 4, 2) := by decide +kernel
theorem dL_law_997 : decode cL_law 997 = .ok (.iconst 1, 1) := by decide +kernel
theorem dL_law_998 : decode cL_law 998 = .ok (.iadd, 1) := by decide +kernel
theorem dL_law_999 : decode cL_law 999 = .ok (.iaload, 1) := by decide +kernel
theorem dL_law_1000 : decode cL_law 1000 = .ok (.aload_n 3, 1) := by decide +kernel
theorem dL_law_1001 : decode cL_law 1001 = .ok (.invokestatic 120, 3) := by decide +kernel
theorem dL_law_1004 : decode cL_law 1004 = .ok (.istore 5, 2) := by decide +kernel
theorem dL_law_1006 : decode cL_law 1006 = .ok (.aload_n 2, 1) := by decide +kernel
theorem dL_law_1007 : decode cL_law 1007 = .ok (.aload_n 0, 1) := by decide +kernel
theorem dL_law_1008 : decode cL_law 1008 = .ok (.iload 4, 2) := by decide +kernel
theorem dL_law_1010 : decode cL_law 1010 = .ok (.iconst 1, 1) := by decide +kernel
theorem dL_law_1011 : decode cL_law 1011 = .ok (.iadd, 1) := by decide +kernel
theorem dL_law_1012 : decode cL_law 1012 = .ok (.iaload, 1) := by decide +kernel
theorem dL_law_1013 : decode cL_law 1013 = .ok (.invokevirtual 122, 3) := by decide +kernel
theorem dL_law_1016 : decode cL_law 1016 = .ok (.istore 6, 2) := by decide +kernel
theorem dL_law_1018 : decode cL_law 1018 = .ok (.aload_n 2, 1) := by decide +kernel
theorem dL_law_1019 : decode cL_law 1019 = .ok (.invokevirtual 72, 3) := by decide +kernel
theorem dL_law_1022 : decode cL_law 1022 = .ok (.iload 5, 2) := by decide +kernel
theorem dL_law_1024 : decode cL_law 1024 = .ok (.if_icmp .eq 5, 3) := by decide +kernel
theorem dL_law_1027 : decode cL_law 1027 = .ok (.iconst 0, 1) := by decide +kernel
theorem dL_law_1028 : decode cL_law 1028 = .ok (.ireturn, 1) := by decide +kernel
theorem dL_law_1029 : decode cL_law 1029 = .ok (.iload 5, 2) := by decide +kernel
theorem dL_law_1031 : decode cL_law 1031 = .ok (.ifCond .ne 15, 3) := by decide +kernel
theorem dL_law_1034 : decode cL_law 1034 = .ok (.aload_n 3, 1) := by decide +kernel
theorem dL_law_1035 : decode cL_law 1035 = .ok (.iconst 0, 1) := by decide +kernel
theorem dL_law_1036 : decode cL_law 1036 = .ok (.laload, 1) := by decide +kernel
theorem dL_law_1037 : decode cL_law 1037 = .ok (.iload 6, 2) := by decide +kernel
theorem dL_law_1039 : decode cL_law 1039 = .ok (.i2l, 1) := by decide +kernel
theorem dL_law_1040 : decode cL_law 1040 = .ok (.lcmp, 1) := by decide +kernel
theorem dL_law_1041 : decode cL_law 1041 = .ok (.ifCond .eq 5, 3) := by decide +kernel
theorem dL_law_1044 : decode cL_law 1044 = .ok (.iconst 0, 1) := by decide +kernel
theorem dL_law_1045 : decode cL_law 1045 = .ok (.ireturn, 1) := by decide +kernel
theorem dL_law_1046 : decode cL_law 1046 = .ok (.goto 58, 3) := by decide +kernel
theorem dL_law_1049 : decode cL_law 1049 = .ok (.aload_n 1, 1) := by decide +kernel
theorem dL_law_1050 : decode cL_law 1050 = .ok (.invokevirtual 123, 3) := by decide +kernel
theorem dL_law_1053 : decode cL_law 1053 = .ok (.dstore 5, 2) := by decide +kernel
theorem dL_law_1055 : decode cL_law 1055 = .ok (.aload_n 2, 1) := by decide +kernel
theorem dL_law_1056 : decode cL_law 1056 = .ok (.invokevirtual 127, 3) := by decide +kernel
theorem dL_law_1059 : decode cL_law 1059 = .ok (.dstore 7, 2) := by decide +kernel
theorem dL_law_1061 : decode cL_law 1061 = .ok (.dload 5, 2) := by decide +kernel
theorem dL_law_1063 : decode cL_law 1063 = .ok (.dload 7, 2) := by decide +kernel
theorem dL_law_1065 : decode cL_law 1065 = .ok (.dcmp .l, 1) := by decide +kernel
theorem dL_law_1066 : decode cL_law 1066 = .ok (.ifCond .eq 21, 3) := by decide +kernel
theorem dL_law_1069 : decode cL_law 1069 = .ok (.dload 5, 2) := by decide +kernel
theorem dL_law_1071 : decode cL_law 1071 = .ok (.dload 5, 2) := by decide +kernel
theorem dL_law_1073 : decode cL_law 1073 = .ok (.dcmp .l, 1) := by decide +kernel
theorem dL_law_1074 : decode cL_law 1074 = .ok (.ifCond .eq 11, 3) := by decide +kernel
theorem dL_law_1077 : decode cL_law 1077 = .ok (.dload 7, 2) := by decide +kernel
theorem dL_law_1079 : decode cL_law 1079 = .ok (.dload 7, 2) := by decide +kernel
theorem dL_law_1081 : decode cL_law 1081 = .ok (.dcmp .l, 1) := by decide +kernel
theorem dL_law_1082 : decode cL_law 1082 = .ok (.ifCond .ne 5, 3) := by decide +kernel
theorem dL_law_1085 : decode cL_law 1085 = .ok (.iconst 0, 1) := by decide +kernel
theorem dL_law_1086 : decode cL_law 1086 = .ok (.ireturn, 1) := by decide +kernel
theorem dL_law_1087 : decode cL_law 1087 = .ok (.goto 17, 3) := by decide +kernel
theorem dL_law_1090 : decode cL_law 1090 = .ok (.aload_n 1, 1) := by decide +kernel
theorem dL_law_1091 : decode cL_law 1091 = .ok (.invokevirtual 128, 3) := by decide +kernel
theorem dL_law_1094 : decode cL_law 1094 = .ok (.aload_n 2, 1) := by decide +kernel
theorem dL_law_1095 : decode cL_law 1095 = .ok (.invokevirtual 132, 3) := by decide +kernel
theorem dL_law_1098 : decode cL_law 1098 = .ok (.lcmp, 1) := by decide +kernel
theorem dL_law_1099 : decode cL_law 1099 = .ok (.ifCond .eq 5, 3) := by decide +kernel
theorem dL_law_1102 : decode cL_law 1102 = .ok (.iconst 0, 1) := by decide +kernel
theorem dL_law_1103 : decode cL_law 1103 = .ok (.ireturn, 1) := by decide +kernel
theorem dL_law_1104 : decode cL_law 1104 = .ok (.iinc 4 3, 3) := by decide +kernel
theorem dL_law_1107 : decode cL_law 1107 = .ok (.goto (-1084), 3) := by decide +kernel
theorem dL_law_1110 : decode cL_law 1110 = .ok (.iconst 1, 1) := by decide +kernel
theorem dL_law_1111 : decode cL_law 1111 = .ok (.ireturn, 1) := by decide +kernel
end
section
/-! the good words of the tables, and where each stands among them -/
def lw_all : List Cond := lw_tbl.filter goodWord
theorem lw_mem {w : Cond} (n : Nat) (h : lw_tbl[n]? = some w) (g : goodWord w = true) : w ∈ lw_all := List.mem_filter.mpr ⟨List.mem_of_getElem? h, g⟩
theorem lw_all_tbl : ∀ w ∈ lw_all, w ∈ lw_tbl := fun _ h => (List.mem_filter.mp h).1
theorem lw_all_good : ∀ w ∈ lw_all, goodWord w = true := fun _ h => (List.mem_filter.mp h).2
theorem q0 : (Jvm.Cond.initialized "HayThievesLaw") ∈ lw_all := lw_mem 20 (by decide +kernel) rfl
theorem q1 : (Jvm.Cond.initialized "HayThieves") ∈ lw_all := lw_mem 21 (by decide +kernel) rfl
theorem q2 : (Jvm.Cond.initialized "HayThieves$Yard") ∈ lw_all := lw_mem 22 (by decide +kernel) rfl
theorem q3 : (Jvm.Cond.initialized "HayThieves$Lad") ∈ lw_all := lw_mem 23 (by decide +kernel) rfl
theorem q4 : (Jvm.Cond.initialized "HayThieves$Cart") ∈ lw_all := lw_mem 24 (by decide +kernel) rfl
theorem q5 : (Jvm.Cond.initialized "HayThieves$Load") ∈ lw_all := lw_mem 25 (by decide +kernel) rfl
theorem q6 : (Jvm.Cond.initialized "HayThievesModel") ∈ lw_all := lw_mem 26 (by decide +kernel) rfl
theorem q7 : (Jvm.Cond.initialized "HayThievesModel$State") ∈ lw_all := lw_mem 27 (by decide +kernel) rfl
theorem q8 : (Jvm.Cond.initialized "java/lang/Throwable") ∈ lw_all := lw_mem 28 (by decide +kernel) rfl
theorem q9 : (Jvm.Cond.initialized "java/lang/Exception") ∈ lw_all := lw_mem 29 (by decide +kernel) rfl
theorem q10 : (Jvm.Cond.initialized "java/lang/RuntimeException") ∈ lw_all := lw_mem 30 (by decide +kernel) rfl
theorem q11 : (Jvm.Cond.initialized "java/lang/IllegalArgumentException") ∈ lw_all := lw_mem 31 (by decide +kernel) rfl
theorem q12 : (Jvm.Cond.initialized "java/lang/IllegalStateException") ∈ lw_all := lw_mem 32 (by decide +kernel) rfl
theorem q13 : (Jvm.Cond.initialized "java/lang/IndexOutOfBoundsException") ∈ lw_all := lw_mem 33 (by decide +kernel) rfl
theorem q14 : (Jvm.Cond.initialized "java/lang/System") ∈ lw_all := lw_mem 34 (by decide +kernel) rfl
theorem q15 : (Jvm.Cond.initialized "java/lang/Math") ∈ lw_all := lw_mem 35 (by decide +kernel) rfl
theorem q16 : (Jvm.Cond.classLink "HayThievesLaw" (8 : Nat) "HayThieves") ∈ lw_all := lw_mem 36 (by decide +kernel) rfl
theorem q17 : (Jvm.Cond.instantiable "HayThieves" (2 : Nat)) ∈ lw_all := lw_mem 37 (by decide +kernel) rfl
theorem q18 : (Jvm.Cond.methodLink "HayThievesLaw" (62 : Nat) ({ cls := "HayThieves", name := "<init>", desc := "()V" } : Jvm.MethodName)) ∈ lw_all := lw_mem 38 (by decide +kernel) rfl
theorem q19 : (Jvm.Cond.instanceMethod ({ cls := "HayThieves", name := "<init>", desc := "()V" } : Jvm.MethodName)) ∈ lw_all := lw_mem 39 (by decide +kernel) rfl
theorem q20 : (Jvm.Cond.code ({ cls := "HayThieves", name := "<init>", desc := "()V" } : Jvm.MethodName) prog_1_method_1_code (1 : Nat) (Option.none : Option Jvm.ClassFile.FieldType)) ∈ lw_all := lw_mem 40 (by decide +kernel) rfl
theorem q21 : (Jvm.Cond.methodLink "HayThieves" (3 : Nat) ({ cls := "java/lang/Object", name := "<init>", desc := "()V" } : Jvm.MethodName)) ∈ lw_all := lw_mem 41 (by decide +kernel) rfl
theorem q22 : (Jvm.Cond.instanceMethod ({ cls := "java/lang/Object", name := "<init>", desc := "()V" } : Jvm.MethodName)) ∈ lw_all := lw_mem 42 (by decide +kernel) rfl
theorem q23 : (Jvm.Cond.code ({ cls := "java/lang/Object", name := "<init>", desc := "()V" } : Jvm.MethodName) object_method_1_code (1 : Nat) (Option.none : Option Jvm.ClassFile.FieldType)) ∈ lw_all := lw_mem 43 (by decide +kernel) rfl
theorem q24 : (Jvm.Cond.classLink "HayThieves" (9 : Nat) "HayThieves$Yard") ∈ lw_all := lw_mem 44 (by decide +kernel) rfl
theorem q25 : (Jvm.Cond.instantiable "HayThieves$Yard" (10 : Nat)) ∈ lw_all := lw_mem 45 (by decide +kernel) rfl
theorem q26 : (Jvm.Cond.methodLink "HayThieves" (11 : Nat) ({ cls := "HayThieves$Yard", name := "<init>", desc := "()V" } : Jvm.MethodName)) ∈ lw_all := lw_mem 46 (by decide +kernel) rfl
theorem q27 : (Jvm.Cond.instanceMethod ({ cls := "HayThieves$Yard", name := "<init>", desc := "()V" } : Jvm.MethodName)) ∈ lw_all := lw_mem 47 (by decide +kernel) rfl
theorem q28 : (Jvm.Cond.code ({ cls := "HayThieves$Yard", name := "<init>", desc := "()V" } : Jvm.MethodName) prog_5_method_1_code (2 : Nat) (Option.none : Option Jvm.ClassFile.FieldType)) ∈ lw_all := lw_mem 48 (by decide +kernel) rfl
theorem q29 : (Jvm.Cond.methodLink "HayThieves$Yard" (3 : Nat) ({ cls := "java/lang/Object", name := "<init>", desc := "()V" } : Jvm.MethodName)) ∈ lw_all := lw_mem 49 (by decide +kernel) rfl
theorem q30 : (Jvm.Cond.classLink "HayThieves$Yard" (9 : Nat) "HayThieves$Lad") ∈ lw_all := lw_mem 50 (by decide +kernel) rfl
theorem q32 : (Jvm.Cond.classLink "HayThieves$Yard" (17 : Nat) "HayThieves$Load") ∈ lw_all := lw_mem 52 (by decide +kernel) rfl
theorem q34 : (Jvm.Cond.instantiable "HayThieves$Lad" (12 : Nat)) ∈ lw_all := lw_mem 54 (by decide +kernel) rfl
theorem q35 : (Jvm.Cond.methodLink "HayThieves$Yard" (50 : Nat) ({ cls := "HayThieves$Lad", name := "<init>", desc := "(I)V" } : Jvm.MethodName)) ∈ lw_all := lw_mem 55 (by decide +kernel) rfl
theorem q36 : (Jvm.Cond.instanceMethod ({ cls := "HayThieves$Lad", name := "<init>", desc := "(I)V" } : Jvm.MethodName)) ∈ lw_all := lw_mem 56 (by decide +kernel) rfl
theorem q37 : (Jvm.Cond.code ({ cls := "HayThieves$Lad", name := "<init>", desc := "(I)V" } : Jvm.MethodName) prog_3_method_1_code (2 : Nat) (Option.none : Option Jvm.ClassFile.FieldType)) ∈ lw_all := lw_mem 57 (by decide +kernel) rfl
theorem q38 : (Jvm.Cond.methodLink "HayThieves$Lad" (3 : Nat) ({ cls := "java/lang/Object", name := "<init>", desc := "()V" } : Jvm.MethodName)) ∈ lw_all := lw_mem 58 (by decide +kernel) rfl
theorem q39 : (Jvm.Cond.classLink "HayThieves$Lad" (18 : Nat) "HayThieves$Cart") ∈ lw_all := lw_mem 59 (by decide +kernel) rfl
theorem q40 : (Jvm.Cond.instantiable "HayThieves$Cart" (2 : Nat)) ∈ lw_all := lw_mem 60 (by decide +kernel) rfl
theorem q42 : (Jvm.Cond.instanceMethod ({ cls := "HayThieves$Cart", name := "<init>", desc := "()V" } : Jvm.MethodName)) ∈ lw_all := lw_mem 62 (by decide +kernel) rfl
theorem q43 : (Jvm.Cond.code ({ cls := "HayThieves$Cart", name := "<init>", desc := "()V" } : Jvm.MethodName) prog_2_method_1_code (1 : Nat) (Option.none : Option Jvm.ClassFile.FieldType)) ∈ lw_all := lw_mem 63 (by decide +kernel) rfl
theorem q44 : (Jvm.Cond.methodLink "HayThieves$Cart" (3 : Nat) ({ cls := "java/lang/Object", name := "<init>", desc := "()V" } : Jvm.MethodName)) ∈ lw_all := lw_mem 64 (by decide +kernel) rfl
theorem q45 : (Jvm.Cond.fieldLink "HayThieves$Cart" (9 : Nat) "HayThieves$Cart" "heaps" "[I") ∈ lw_all := lw_mem 65 (by decide +kernel) rfl
theorem q46 : (Jvm.Cond.fieldLink "HayThieves$Cart" (15 : Nat) "HayThieves$Cart" "size" "I") ∈ lw_all := lw_mem 66 (by decide +kernel) rfl
theorem q55 : (Jvm.Cond.arrayClass Jvm.ClassFile.FieldType.int) ∈ lw_all := lw_mem 75 (by decide +kernel) rfl
theorem q56 : (Jvm.Cond.arrayClass Jvm.ClassFile.FieldType.boolean) ∈ lw_all := lw_mem 76 (by decide +kernel) rfl
theorem q57 : (Jvm.Cond.fieldLink "HayThieves$Lad" (50 : Nat) "HayThieves$Lad" "number" "I") ∈ lw_all := lw_mem 77 (by decide +kernel) rfl
theorem q59 : (Jvm.Cond.fieldLink "HayThieves$Lad" (9 : Nat) "HayThieves$Lad" "strength" "I") ∈ lw_all := lw_mem 79 (by decide +kernel) rfl
theorem q61 : (Jvm.Cond.fieldLink "HayThieves$Lad" (15 : Nat) "HayThieves$Lad" "way" "I") ∈ lw_all := lw_mem 81 (by decide +kernel) rfl
theorem q64 : (Jvm.Cond.fieldLink "HayThieves$Lad" (21 : Nat) "HayThieves$Lad" "cart" "LHayThieves$Cart;") ∈ lw_all := lw_mem 84 (by decide +kernel) rfl
theorem q67 : (Jvm.Cond.fieldLink "HayThieves$Lad" (25 : Nat) "HayThieves$Lad" "hands" "I") ∈ lw_all := lw_mem 87 (by decide +kernel) rfl
theorem q69 : (Jvm.Cond.fieldLink "HayThieves$Lad" (28 : Nat) "HayThieves$Lad" "balesLeft" "I") ∈ lw_all := lw_mem 89 (by decide +kernel) rfl
theorem q71 : (Jvm.Cond.fieldLink "HayThieves$Lad" (31 : Nat) "HayThieves$Lad" "toJoin" "I") ∈ lw_all := lw_mem 91 (by decide +kernel) rfl
theorem q73 : (Jvm.Cond.fieldLink "HayThieves$Lad" (34 : Nat) "HayThieves$Lad" "asleep" "Z") ∈ lw_all := lw_mem 93 (by decide +kernel) rfl
theorem q76 : (Jvm.Cond.fieldLink "HayThieves$Lad" (38 : Nat) "HayThieves$Lad" "idleInRow" "I") ∈ lw_all := lw_mem 96 (by decide +kernel) rfl
theorem q78 : (Jvm.Cond.fieldLink "HayThieves$Lad" (41 : Nat) "HayThieves$Lad" "idleMinutes" "I") ∈ lw_all := lw_mem 98 (by decide +kernel) rfl
theorem q79 : (Jvm.Cond.fieldLink "HayThieves$Lad" (44 : Nat) "HayThieves$Lad" "thefts" "I") ∈ lw_all := lw_mem 99 (by decide +kernel) rfl
theorem q82 : (Jvm.Cond.fieldLink "HayThieves$Lad" (47 : Nat) "HayThieves$Lad" "theftsFrom" "I") ∈ lw_all := lw_mem 102 (by decide +kernel) rfl
theorem q109 : (Jvm.Cond.instantiable "HayThieves$Load" (7 : Nat)) ∈ lw_all := lw_mem 129 (by decide +kernel) rfl
theorem q111 : (Jvm.Cond.instanceMethod ({ cls := "HayThieves$Load", name := "<init>", desc := "()V" } : Jvm.MethodName)) ∈ lw_all := lw_mem 131 (by decide +kernel) rfl
theorem q112 : (Jvm.Cond.code ({ cls := "HayThieves$Load", name := "<init>", desc := "()V" } : Jvm.MethodName) prog_4_method_1_code (1 : Nat) (Option.none : Option Jvm.ClassFile.FieldType)) ∈ lw_all := lw_mem 132 (by decide +kernel) rfl
theorem q113 : (Jvm.Cond.methodLink "HayThieves$Load" (3 : Nat) ({ cls := "java/lang/Object", name := "<init>", desc := "()V" } : Jvm.MethodName)) ∈ lw_all := lw_mem 133 (by decide +kernel) rfl
theorem q114 : (Jvm.Cond.fieldLink "HayThieves$Load" (9 : Nat) "HayThieves$Load" "bales" "I") ∈ lw_all := lw_mem 134 (by decide +kernel) rfl
theorem q116 : (Jvm.Cond.fieldLink "HayThieves$Load" (15 : Nat) "HayThieves$Load" "state" "I") ∈ lw_all := lw_mem 136 (by decide +kernel) rfl
theorem q119 : (Jvm.Cond.fieldLink "HayThieves$Load" (18 : Nat) "HayThieves$Load" "broughtAt" "I") ∈ lw_all := lw_mem 139 (by decide +kernel) rfl
theorem q121 : (Jvm.Cond.fieldLink "HayThieves$Load" (21 : Nat) "HayThieves$Load" "doneAt" "I") ∈ lw_all := lw_mem 141 (by decide +kernel) rfl
theorem q123 : (Jvm.Cond.fieldLink "HayThieves$Load" (24 : Nat) "HayThieves$Load" "heaps" "I") ∈ lw_all := lw_mem 143 (by decide +kernel) rfl
theorem q125 : (Jvm.Cond.fieldLink "HayThieves$Load" (27 : Nat) "HayThieves$Load" "thefts" "I") ∈ lw_all := lw_mem 145 (by decide +kernel) rfl
theorem q127 : (Jvm.Cond.fieldLink "HayThieves$Load" (30 : Nat) "HayThieves$Load" "pitched" "I") ∈ lw_all := lw_mem 147 (by decide +kernel) rfl
theorem q144 : (Jvm.Cond.fieldLink "HayThieves$Yard" (11 : Nat) "HayThieves$Yard" "lads" "[LHayThieves$Lad;") ∈ lw_all := lw_mem 164 (by decide +kernel) rfl
theorem q146 : (Jvm.Cond.fieldLink "HayThieves$Yard" (19 : Nat) "HayThieves$Yard" "loads" "[LHayThieves$Load;") ∈ lw_all := lw_mem 166 (by decide +kernel) rfl
theorem q148 : (Jvm.Cond.fieldLink "HayThieves$Yard" (23 : Nat) "HayThieves$Yard" "heapBales" "[I") ∈ lw_all := lw_mem 168 (by decide +kernel) rfl
theorem q149 : (Jvm.Cond.fieldLink "HayThieves$Yard" (27 : Nat) "HayThieves$Yard" "heapDone" "[Z") ∈ lw_all := lw_mem 169 (by decide +kernel) rfl
theorem q150 : (Jvm.Cond.fieldLink "HayThieves$Yard" (31 : Nat) "HayThieves$Yard" "ladCount" "I") ∈ lw_all := lw_mem 170 (by decide +kernel) rfl
theorem q152 : (Jvm.Cond.fieldLink "HayThieves$Yard" (35 : Nat) "HayThieves$Yard" "loadCount" "I") ∈ lw_all := lw_mem 172 (by decide +kernel) rfl
theorem q154 : (Jvm.Cond.fieldLink "HayThieves$Yard" (38 : Nat) "HayThieves$Yard" "minute" "I") ∈ lw_all := lw_mem 174 (by decide +kernel) rfl
theorem q155 : (Jvm.Cond.fieldLink "HayThieves$Yard" (41 : Nat) "HayThieves$Yard" "forkSize" "I") ∈ lw_all := lw_mem 175 (by decide +kernel) rfl
theorem q157 : (Jvm.Cond.fieldLink "HayThieves$Yard" (44 : Nat) "HayThieves$Yard" "forkings" "I") ∈ lw_all := lw_mem 177 (by decide +kernel) rfl
theorem q158 : (Jvm.Cond.fieldLink "HayThieves$Yard" (47 : Nat) "HayThieves$Yard" "joinings" "I") ∈ lw_all := lw_mem 178 (by decide +kernel) rfl
theorem q180 : (Jvm.Cond.fieldLink "HayThieves" (12 : Nat) "HayThieves" "now" "LHayThieves$Yard;") ∈ lw_all := lw_mem 200 (by decide +kernel) rfl
theorem q181 : (Jvm.Cond.fieldLink "HayThieves" (16 : Nat) "HayThieves" "trial" "LHayThieves$Yard;") ∈ lw_all := lw_mem 201 (by decide +kernel) rfl
theorem q187 : (Jvm.Cond.methodLink "HayThievesLaw" (107 : Nat) ({ cls := "HayThieves", name := "thief", desc := "()I" } : Jvm.MethodName)) ∈ lw_all := lw_mem 207 (by decide +kernel) rfl
theorem q188 : (Jvm.Cond.instanceMethod ({ cls := "HayThieves", name := "thief", desc := "()I" } : Jvm.MethodName)) ∈ lw_all := lw_mem 208 (by decide +kernel) rfl
theorem q189 : (Jvm.Cond.selects "HayThieves" ({ cls := "HayThieves", name := "thief", desc := "()I" } : Jvm.MethodName) ({ cls := "HayThieves", name := "thief", desc := "()I" } : Jvm.MethodName)) ∈ lw_all := lw_mem 209 (by decide +kernel) rfl
theorem q190 : (Jvm.Cond.code ({ cls := "HayThieves", name := "thief", desc := "()I" } : Jvm.MethodName) prog_1_method_13_code (4 : Nat) (Option.some Jvm.ClassFile.FieldType.int)) ∈ lw_all := lw_mem 210 (by decide +kernel) rfl
theorem q191 : (Jvm.Cond.methodLink "HayThievesLaw" (123 : Nat) ({ cls := "HayThieves", name := "mean", desc := "()D" } : Jvm.MethodName)) ∈ lw_all := lw_mem 211 (by decide +kernel) rfl
theorem q192 : (Jvm.Cond.instanceMethod ({ cls := "HayThieves", name := "mean", desc := "()D" } : Jvm.MethodName)) ∈ lw_all := lw_mem 212 (by decide +kernel) rfl
theorem q193 : (Jvm.Cond.selects "HayThieves" ({ cls := "HayThieves", name := "mean", desc := "()D" } : Jvm.MethodName) ({ cls := "HayThieves", name := "mean", desc := "()D" } : Jvm.MethodName)) ∈ lw_all := lw_mem 213 (by decide +kernel) rfl
theorem q194 : (Jvm.Cond.code ({ cls := "HayThieves", name := "mean", desc := "()D" } : Jvm.MethodName) prog_1_method_18_code (1 : Nat) (Option.some Jvm.ClassFile.FieldType.double)) ∈ lw_all := lw_mem 214 (by decide +kernel) rfl
theorem q195 : (Jvm.Cond.methodLink "HayThieves" (120 : Nat) ({ cls := "HayThieves$Yard", name := "tell", desc := "(I)I" } : Jvm.MethodName)) ∈ lw_all := lw_mem 215 (by decide +kernel) rfl
theorem q196 : (Jvm.Cond.instanceMethod ({ cls := "HayThieves$Yard", name := "tell", desc := "(I)I" } : Jvm.MethodName)) ∈ lw_all := lw_mem 216 (by decide +kernel) rfl
theorem q197 : (Jvm.Cond.selects "HayThieves$Yard" ({ cls := "HayThieves$Yard", name := "tell", desc := "(I)I" } : Jvm.MethodName) ({ cls := "HayThieves$Yard", name := "tell", desc := "(I)I" } : Jvm.MethodName)) ∈ lw_all := lw_mem 217 (by decide +kernel) rfl
theorem q198 : (Jvm.Cond.code ({ cls := "HayThieves$Yard", name := "tell", desc := "(I)I" } : Jvm.MethodName) prog_5_method_5_code (2 : Nat) (Option.some Jvm.ClassFile.FieldType.int)) ∈ lw_all := lw_mem 218 (by decide +kernel) rfl
theorem q199 : (Jvm.Cond.methodLink "HayThieves$Yard" (74 : Nat) ({ cls := "HayThieves$Yard", name := "loadsThatAre", desc := "(I)I" } : Jvm.MethodName)) ∈ lw_all := lw_mem 219 (by decide +kernel) rfl
theorem q200 : (Jvm.Cond.instanceMethod ({ cls := "HayThieves$Yard", name := "loadsThatAre", desc := "(I)I" } : Jvm.MethodName)) ∈ lw_all := lw_mem 220 (by decide +kernel) rfl
theorem q201 : (Jvm.Cond.selects "HayThieves$Yard" ({ cls := "HayThieves$Yard", name := "loadsThatAre", desc := "(I)I" } : Jvm.MethodName) ({ cls := "HayThieves$Yard", name := "loadsThatAre", desc := "(I)I" } : Jvm.MethodName)) ∈ lw_all := lw_mem 221 (by decide +kernel) rfl
theorem q202 : (Jvm.Cond.code ({ cls := "HayThieves$Yard", name := "loadsThatAre", desc := "(I)I" } : Jvm.MethodName) prog_5_method_6_code (4 : Nat) (Option.some Jvm.ClassFile.FieldType.int)) ∈ lw_all := lw_mem 222 (by decide +kernel) rfl
theorem q203 : (Jvm.Cond.methodLink "HayThieves$Yard" (78 : Nat) ({ cls := "HayThieves$Yard", name := "sumOverLads", desc := "(I)I" } : Jvm.MethodName)) ∈ lw_all := lw_mem 223 (by decide +kernel) rfl
theorem q204 : (Jvm.Cond.instanceMethod ({ cls := "HayThieves$Yard", name := "sumOverLads", desc := "(I)I" } : Jvm.MethodName)) ∈ lw_all := lw_mem 224 (by decide +kernel) rfl
theorem q205 : (Jvm.Cond.selects "HayThieves$Yard" ({ cls := "HayThieves$Yard", name := "sumOverLads", desc := "(I)I" } : Jvm.MethodName) ({ cls := "HayThieves$Yard", name := "sumOverLads", desc := "(I)I" } : Jvm.MethodName)) ∈ lw_all := lw_mem 225 (by decide +kernel) rfl
theorem q206 : (Jvm.Cond.code ({ cls := "HayThieves$Yard", name := "sumOverLads", desc := "(I)I" } : Jvm.MethodName) prog_5_method_7_code (4 : Nat) (Option.some Jvm.ClassFile.FieldType.int)) ∈ lw_all := lw_mem 226 (by decide +kernel) rfl
theorem q207 : (Jvm.Cond.methodLink "HayThieves$Yard" (91 : Nat) ({ cls := "HayThieves$Lad", name := "tell", desc := "(I)I" } : Jvm.MethodName)) ∈ lw_all := lw_mem 227 (by decide +kernel) rfl
theorem q208 : (Jvm.Cond.instanceMethod ({ cls := "HayThieves$Lad", name := "tell", desc := "(I)I" } : Jvm.MethodName)) ∈ lw_all := lw_mem 228 (by decide +kernel) rfl
theorem q209 : (Jvm.Cond.selects "HayThieves$Lad" ({ cls := "HayThieves$Lad", name := "tell", desc := "(I)I" } : Jvm.MethodName) ({ cls := "HayThieves$Lad", name := "tell", desc := "(I)I" } : Jvm.MethodName)) ∈ lw_all := lw_mem 229 (by decide +kernel) rfl
theorem q210 : (Jvm.Cond.code ({ cls := "HayThieves$Lad", name := "tell", desc := "(I)I" } : Jvm.MethodName) prog_3_method_2_code (2 : Nat) (Option.some Jvm.ClassFile.FieldType.int)) ∈ lw_all := lw_mem 230 (by decide +kernel) rfl
theorem q211 : (Jvm.Cond.methodLink "HayThieves$Lad" (56 : Nat) ({ cls := "HayThieves$Lad", name := "doing", desc := "()I" } : Jvm.MethodName)) ∈ lw_all := lw_mem 231 (by decide +kernel) rfl
theorem q212 : (Jvm.Cond.instanceMethod ({ cls := "HayThieves$Lad", name := "doing", desc := "()I" } : Jvm.MethodName)) ∈ lw_all := lw_mem 232 (by decide +kernel) rfl
theorem q213 : (Jvm.Cond.selects "HayThieves$Lad" ({ cls := "HayThieves$Lad", name := "doing", desc := "()I" } : Jvm.MethodName) ({ cls := "HayThieves$Lad", name := "doing", desc := "()I" } : Jvm.MethodName)) ∈ lw_all := lw_mem 233 (by decide +kernel) rfl
theorem q214 : (Jvm.Cond.code ({ cls := "HayThieves$Lad", name := "doing", desc := "()I" } : Jvm.MethodName) prog_3_method_3_code (1 : Nat) (Option.some Jvm.ClassFile.FieldType.int)) ∈ lw_all := lw_mem 234 (by decide +kernel) rfl
theorem q215 : (Jvm.Cond.methodLink "HayThieves$Lad" (60 : Nat) ({ cls := "HayThieves$Lad", name := "loadAtWork", desc := "()I" } : Jvm.MethodName)) ∈ lw_all := lw_mem 235 (by decide +kernel) rfl
theorem q216 : (Jvm.Cond.instanceMethod ({ cls := "HayThieves$Lad", name := "loadAtWork", desc := "()I" } : Jvm.MethodName)) ∈ lw_all := lw_mem 236 (by decide +kernel) rfl
theorem q217 : (Jvm.Cond.selects "HayThieves$Lad" ({ cls := "HayThieves$Lad", name := "loadAtWork", desc := "()I" } : Jvm.MethodName) ({ cls := "HayThieves$Lad", name := "loadAtWork", desc := "()I" } : Jvm.MethodName)) ∈ lw_all := lw_mem 237 (by decide +kernel) rfl
theorem q218 : (Jvm.Cond.code ({ cls := "HayThieves$Lad", name := "loadAtWork", desc := "()I" } : Jvm.MethodName) prog_3_method_4_code (2 : Nat) (Option.some Jvm.ClassFile.FieldType.int)) ∈ lw_all := lw_mem 238 (by decide +kernel) rfl
theorem q219 : (Jvm.Cond.methodLink "HayThieves$Yard" (81 : Nat) ({ cls := "HayThieves$Yard", name := "sleepers", desc := "()I" } : Jvm.MethodName)) ∈ lw_all := lw_mem 239 (by decide +kernel) rfl
theorem q220 : (Jvm.Cond.instanceMethod ({ cls := "HayThieves$Yard", name := "sleepers", desc := "()I" } : Jvm.MethodName)) ∈ lw_all := lw_mem 240 (by decide +kernel) rfl
theorem q221 : (Jvm.Cond.selects "HayThieves$Yard" ({ cls := "HayThieves$Yard", name := "sleepers", desc := "()I" } : Jvm.MethodName) ({ cls := "HayThieves$Yard", name := "sleepers", desc := "()I" } : Jvm.MethodName)) ∈ lw_all := lw_mem 241 (by decide +kernel) rfl
theorem q222 : (Jvm.Cond.code ({ cls := "HayThieves$Yard", name := "sleepers", desc := "()I" } : Jvm.MethodName) prog_5_method_9_code (3 : Nat) (Option.some Jvm.ClassFile.FieldType.int)) ∈ lw_all := lw_mem 242 (by decide +kernel) rfl
theorem q223 : (Jvm.Cond.methodLink "HayThieves$Yard" (85 : Nat) ({ cls := "HayThieves$Yard", name := "sumOverLoads", desc := "(I)I" } : Jvm.MethodName)) ∈ lw_all := lw_mem 243 (by decide +kernel) rfl
theorem q224 : (Jvm.Cond.instanceMethod ({ cls := "HayThieves$Yard", name := "sumOverLoads", desc := "(I)I" } : Jvm.MethodName)) ∈ lw_all := lw_mem 244 (by decide +kernel) rfl
theorem q225 : (Jvm.Cond.selects "HayThieves$Yard" ({ cls := "HayThieves$Yard", name := "sumOverLoads", desc := "(I)I" } : Jvm.MethodName) ({ cls := "HayThieves$Yard", name := "sumOverLoads", desc := "(I)I" } : Jvm.MethodName)) ∈ lw_all := lw_mem 245 (by decide +kernel) rfl
theorem q226 : (Jvm.Cond.code ({ cls := "HayThieves$Yard", name := "sumOverLoads", desc := "(I)I" } : Jvm.MethodName) prog_5_method_8_code (4 : Nat) (Option.some Jvm.ClassFile.FieldType.int)) ∈ lw_all := lw_mem 246 (by decide +kernel) rfl
theorem q227 : (Jvm.Cond.methodLink "HayThieves$Yard" (94 : Nat) ({ cls := "HayThieves$Load", name := "tell", desc := "(I)I" } : Jvm.MethodName)) ∈ lw_all := lw_mem 247 (by decide +kernel) rfl
theorem q228 : (Jvm.Cond.instanceMethod ({ cls := "HayThieves$Load", name := "tell", desc := "(I)I" } : Jvm.MethodName)) ∈ lw_all := lw_mem 248 (by decide +kernel) rfl
theorem q229 : (Jvm.Cond.selects "HayThieves$Load" ({ cls := "HayThieves$Load", name := "tell", desc := "(I)I" } : Jvm.MethodName) ({ cls := "HayThieves$Load", name := "tell", desc := "(I)I" } : Jvm.MethodName)) ∈ lw_all := lw_mem 249 (by decide +kernel) rfl
theorem q230 : (Jvm.Cond.code ({ cls := "HayThieves$Load", name := "tell", desc := "(I)I" } : Jvm.MethodName) prog_4_method_2_code (2 : Nat) (Option.some Jvm.ClassFile.FieldType.int)) ∈ lw_all := lw_mem 250 (by decide +kernel) rfl
theorem q231 : (Jvm.Cond.methodLink "HayThievesLaw" (128 : Nat) ({ cls := "HayThieves", name := "digest", desc := "()J" } : Jvm.MethodName)) ∈ lw_all := lw_mem 251 (by decide +kernel) rfl
theorem q232 : (Jvm.Cond.instanceMethod ({ cls := "HayThieves", name := "digest", desc := "()J" } : Jvm.MethodName)) ∈ lw_all := lw_mem 252 (by decide +kernel) rfl
theorem q233 : (Jvm.Cond.selects "HayThieves" ({ cls := "HayThieves", name := "digest", desc := "()J" } : Jvm.MethodName) ({ cls := "HayThieves", name := "digest", desc := "()J" } : Jvm.MethodName)) ∈ lw_all := lw_mem 253 (by decide +kernel) rfl
theorem q234 : (Jvm.Cond.code ({ cls := "HayThieves", name := "digest", desc := "()J" } : Jvm.MethodName) prog_1_method_19_code (5 : Nat) (Option.some Jvm.ClassFile.FieldType.long)) ∈ lw_all := lw_mem 254 (by decide +kernel) rfl
theorem q235 : (Jvm.Cond.constantLong "HayThieves" (148 : Nat) (1531 : Int64)) ∈ lw_all := lw_mem 255 (by decide +kernel) rfl
theorem q236 : (Jvm.Cond.methodLink "HayThieves" (150 : Nat) ({ cls := "HayThieves", name := "mixed", desc := "(JI)J" } : Jvm.MethodName)) ∈ lw_all := lw_mem 256 (by decide +kernel) rfl
theorem q237 : (Jvm.Cond.static ({ cls := "HayThieves", name := "mixed", desc := "(JI)J" } : Jvm.MethodName)) ∈ lw_all := lw_mem 257 (by decide +kernel) rfl
theorem q238 : (Jvm.Cond.code ({ cls := "HayThieves", name := "mixed", desc := "(JI)J" } : Jvm.MethodName) prog_1_method_21_code (3 : Nat) (Option.some Jvm.ClassFile.FieldType.long)) ∈ lw_all := lw_mem 258 (by decide +kernel) rfl
theorem q239 : (Jvm.Cond.constantLong "HayThieves" (158 : Nat) (31 : Int64)) ∈ lw_all := lw_mem 259 (by decide +kernel) rfl
theorem q240 : (Jvm.Cond.methodLink "HayThieves" (154 : Nat) ({ cls := "HayThieves", name := "mixedWithLad", desc := "(JLHayThieves$Lad;)J" } : Jvm.MethodName)) ∈ lw_all := lw_mem 260 (by decide +kernel) rfl
theorem q242 : (Jvm.Cond.instanceMethod ({ cls := "HayThieves", name := "mixedWithLad", desc := "(JLHayThieves$Lad;)J" } : Jvm.MethodName)) ∈ lw_all := lw_mem 262 (by decide +kernel) rfl
theorem q243 : (Jvm.Cond.code ({ cls := "HayThieves", name := "mixedWithLad", desc := "(JLHayThieves$Lad;)J" } : Jvm.MethodName) prog_1_method_20_code (7 : Nat) (Option.some Jvm.ClassFile.FieldType.long)) ∈ lw_all := lw_mem 263 (by decide +kernel) rfl
theorem q244 : (Jvm.Cond.methodLink "HayThieves" (95 : Nat) ({ cls := "HayThieves$Lad", name := "tell", desc := "(I)I" } : Jvm.MethodName)) ∈ lw_all := lw_mem 264 (by decide +kernel) rfl
theorem q245 : (Jvm.Cond.methodLink "HayThieves" (100 : Nat) ({ cls := "HayThieves$Cart", name := "heapAt", desc := "(I)I" } : Jvm.MethodName)) ∈ lw_all := lw_mem 265 (by decide +kernel) rfl
theorem q246 : (Jvm.Cond.instanceMethod ({ cls := "HayThieves$Cart", name := "heapAt", desc := "(I)I" } : Jvm.MethodName)) ∈ lw_all := lw_mem 266 (by decide +kernel) rfl
theorem q247 : (Jvm.Cond.selects "HayThieves$Cart" ({ cls := "HayThieves$Cart", name := "heapAt", desc := "(I)I" } : Jvm.MethodName) ({ cls := "HayThieves$Cart", name := "heapAt", desc := "(I)I" } : Jvm.MethodName)) ∈ lw_all := lw_mem 267 (by decide +kernel) rfl
theorem q248 : (Jvm.Cond.code ({ cls := "HayThieves$Cart", name := "heapAt", desc := "(I)I" } : Jvm.MethodName) prog_2_method_2_code (2 : Nat) (Option.some Jvm.ClassFile.FieldType.int)) ∈ lw_all := lw_mem 268 (by decide +kernel) rfl
theorem q249 : (Jvm.Cond.methodLink "HayThieves" (103 : Nat) ({ cls := "HayThieves$Yard", name := "balesOf", desc := "(I)I" } : Jvm.MethodName)) ∈ lw_all := lw_mem 269 (by decide +kernel) rfl
theorem q250 : (Jvm.Cond.instanceMethod ({ cls := "HayThieves$Yard", name := "balesOf", desc := "(I)I" } : Jvm.MethodName)) ∈ lw_all := lw_mem 270 (by decide +kernel) rfl
theorem q251 : (Jvm.Cond.selects "HayThieves$Yard" ({ cls := "HayThieves$Yard", name := "balesOf", desc := "(I)I" } : Jvm.MethodName) ({ cls := "HayThieves$Yard", name := "balesOf", desc := "(I)I" } : Jvm.MethodName)) ∈ lw_all := lw_mem 271 (by decide +kernel) rfl
theorem q252 : (Jvm.Cond.code ({ cls := "HayThieves$Yard", name := "balesOf", desc := "(I)I" } : Jvm.MethodName) prog_5_method_10_code (2 : Nat) (Option.some Jvm.ClassFile.FieldType.int)) ∈ lw_all := lw_mem 272 (by decide +kernel) rfl
theorem q253 : (Jvm.Cond.methodLink "HayThieves" (115 : Nat) ({ cls := "HayThieves$Load", name := "tell", desc := "(I)I" } : Jvm.MethodName)) ∈ lw_all := lw_mem 273 (by decide +kernel) rfl
theorem q254 : (Jvm.Cond.methodLink "HayThievesLaw" (66 : Nat) ({ cls := "HayThievesLaw", name := "come", desc := "(LHayThieves;I[J)I" } : Jvm.MethodName)) ∈ lw_all := lw_mem 274 (by decide +kernel) rfl
theorem q255 : (Jvm.Cond.static ({ cls := "HayThievesLaw", name := "come", desc := "(LHayThieves;I[J)I" } : Jvm.MethodName)) ∈ lw_all := lw_mem 275 (by decide +kernel) rfl
theorem q256 : (Jvm.Cond.codeWith ({ cls := "HayThievesLaw", name := "come", desc := "(LHayThieves;I[J)I" } : Jvm.MethodName) method_3_code (4 : Nat) (Option.some Jvm.ClassFile.FieldType.int) [((0 : Nat), (9 : Nat), (12 : Nat), (13 : Nat)), ((0 : Nat), (9 : Nat), (15 : Nat), (15 : Nat))]) ∈ lw_all := lw_mem 276 (by decide +kernel) rfl
theorem q257 : (Jvm.Cond.classLink "HayThievesLaw" (13 : Nat) "java/lang/IllegalArgumentException") ∈ lw_all := lw_mem 277 (by decide +kernel) rfl
theorem q258 : (Jvm.Cond.classLink "HayThievesLaw" (15 : Nat) "java/lang/IllegalStateException") ∈ lw_all := lw_mem 278 (by decide +kernel) rfl
theorem q259 : (Jvm.Cond.methodLink "HayThievesLaw" (7 : Nat) ({ cls := "HayThieves", name := "come", desc := "(I)I" } : Jvm.MethodName)) ∈ lw_all := lw_mem 279 (by decide +kernel) rfl
theorem q260 : (Jvm.Cond.instanceMethod ({ cls := "HayThieves", name := "come", desc := "(I)I" } : Jvm.MethodName)) ∈ lw_all := lw_mem 280 (by decide +kernel) rfl
theorem q261 : (Jvm.Cond.selects "HayThieves" ({ cls := "HayThieves", name := "come", desc := "(I)I" } : Jvm.MethodName) ({ cls := "HayThieves", name := "come", desc := "(I)I" } : Jvm.MethodName)) ∈ lw_all := lw_mem 281 (by decide +kernel) rfl
theorem q262 : (Jvm.Cond.code ({ cls := "HayThieves", name := "come", desc := "(I)I" } : Jvm.MethodName) prog_1_method_2_code (2 : Nat) (Option.some Jvm.ClassFile.FieldType.int)) ∈ lw_all := lw_mem 282 (by decide +kernel) rfl
theorem q263 : (Jvm.Cond.classLink "HayThieves" (19 : Nat) "java/lang/IllegalArgumentException") ∈ lw_all := lw_mem 283 (by decide +kernel) rfl
theorem q264 : (Jvm.Cond.instantiable "java/lang/IllegalArgumentException" (6 : Nat)) ∈ lw_all := lw_mem 284 (by decide +kernel) rfl
theorem q272 : (Jvm.Cond.selects "java/lang/IllegalArgumentException" ({ cls := "java/lang/Throwable", name := "fillInStackTrace", desc := "(I)Ljava/lang/Throwable;" } : Jvm.MethodName) ({ cls := "java/lang/Throwable", name := "fillInStackTrace", desc := "(I)Ljava/lang/Throwable;" } : Jvm.MethodName)) ∈ lw_all := lw_mem 292 (by decide +kernel) rfl
theorem q273 : (Jvm.Cond.selects "java/lang/IllegalArgumentException" ({ cls := "java/lang/Throwable", name := "fillInStackTrace", desc := "()Ljava/lang/Throwable;" } : Jvm.MethodName) ({ cls := "java/lang/Throwable", name := "fillInStackTrace", desc := "()Ljava/lang/Throwable;" } : Jvm.MethodName)) ∈ lw_all := lw_mem 293 (by decide +kernel) rfl
theorem q284 : (Jvm.Cond.fieldLink "java/lang/Throwable" (198 : Nat) "java/lang/Throwable" "backtrace" "Ljava/lang/Object;") ∈ lw_all := lw_mem 304 (by decide +kernel) rfl
theorem q286 : (Jvm.Cond.instanceMethod ({ cls := "java/lang/Throwable", name := "<init>", desc := "()V" } : Jvm.MethodName)) ∈ lw_all := lw_mem 306 (by decide +kernel) rfl
theorem q287 : (Jvm.Cond.code ({ cls := "java/lang/Throwable", name := "<init>", desc := "()V" } : Jvm.MethodName) prog_17_method_1_code (1 : Nat) (Option.none : Option Jvm.ClassFile.FieldType)) ∈ lw_all := lw_mem 307 (by decide +kernel) rfl
theorem q288 : (Jvm.Cond.methodLink "java/lang/Throwable" (1 : Nat) ({ cls := "java/lang/Object", name := "<init>", desc := "()V" } : Jvm.MethodName)) ∈ lw_all := lw_mem 308 (by decide +kernel) rfl
theorem q289 : (Jvm.Cond.fieldLink "java/lang/Throwable" (13 : Nat) "java/lang/Throwable" "UNASSIGNED_STACK" "[Ljava/lang/StackTraceElement;") ∈ lw_all := lw_mem 309 (by decide +kernel) rfl
theorem q291 : (Jvm.Cond.fieldLink "java/lang/Throwable" (20 : Nat) "java/lang/Throwable" "SUPPRESSED_SENTINEL" "Ljava/util/List;") ∈ lw_all := lw_mem 311 (by decide +kernel) rfl
theorem q293 : (Jvm.Cond.methodLink "java/lang/Throwable" (27 : Nat) ({ cls := "java/lang/Throwable", name := "fillInStackTrace", desc := "()Ljava/lang/Throwable;" } : Jvm.MethodName)) ∈ lw_all := lw_mem 313 (by decide +kernel) rfl
theorem q294 : (Jvm.Cond.instanceMethod ({ cls := "java/lang/Throwable", name := "fillInStackTrace", desc := "()Ljava/lang/Throwable;" } : Jvm.MethodName)) ∈ lw_all := lw_mem 314 (by decide +kernel) rfl
theorem q296 : (Jvm.Cond.selects "java/lang/IllegalStateException" ({ cls := "java/lang/Throwable", name := "fillInStackTrace", desc := "()Ljava/lang/Throwable;" } : Jvm.MethodName) ({ cls := "java/lang/Throwable", name := "fillInStackTrace", desc := "()Ljava/lang/Throwable;" } : Jvm.MethodName)) ∈ lw_all := lw_mem 316 (by decide +kernel) rfl
theorem q297 : (Jvm.Cond.selects "java/lang/IndexOutOfBoundsException" ({ cls := "java/lang/Throwable", name := "fillInStackTrace", desc := "()Ljava/lang/Throwable;" } : Jvm.MethodName) ({ cls := "java/lang/Throwable", name := "fillInStackTrace", desc := "()Ljava/lang/Throwable;" } : Jvm.MethodName)) ∈ lw_all := lw_mem 317 (by decide +kernel) rfl
theorem q299 : (Jvm.Cond.methodLink "java/lang/Throwable" (202 : Nat) ({ cls := "java/lang/Throwable", name := "fillInStackTrace", desc := "(I)Ljava/lang/Throwable;" } : Jvm.MethodName)) ∈ lw_all := lw_mem 319 (by decide +kernel) rfl
theorem q301 : (Jvm.Cond.instanceMethod ({ cls := "java/lang/Throwable", name := "fillInStackTrace", desc := "(I)Ljava/lang/Throwable;" } : Jvm.MethodName)) ∈ lw_all := lw_mem 321 (by decide +kernel) rfl
theorem q302 : (Jvm.Cond.instantiable "java/lang/Throwable" (6 : Nat)) ∈ lw_all := lw_mem 322 (by decide +kernel) rfl
theorem q303 : (Jvm.Cond.native ({ cls := "java/lang/Throwable", name := "fillInStackTrace", desc := "(I)Ljava/lang/Throwable;" } : Jvm.MethodName)) ∈ lw_all := lw_mem 323 (by decide +kernel) rfl
theorem q305 : (Jvm.Cond.methodLink "HayThieves" (23 : Nat) ({ cls := "java/lang/IllegalArgumentException", name := "<init>", desc := "(Ljava/lang/String;)V" } : Jvm.MethodName)) ∈ lw_all := lw_mem 325 (by decide +kernel) rfl
theorem q306 : (Jvm.Cond.instanceMethod ({ cls := "java/lang/IllegalArgumentException", name := "<init>", desc := "(Ljava/lang/String;)V" } : Jvm.MethodName)) ∈ lw_all := lw_mem 326 (by decide +kernel) rfl
theorem q307 : (Jvm.Cond.code ({ cls := "java/lang/IllegalArgumentException", name := "<init>", desc := "(Ljava/lang/String;)V" } : Jvm.MethodName) prog_10_method_2_code (2 : Nat) (Option.none : Option Jvm.ClassFile.FieldType)) ∈ lw_all := lw_mem 327 (by decide +kernel) rfl
theorem q308 : (Jvm.Cond.methodLink "java/lang/IllegalArgumentException" (7 : Nat) ({ cls := "java/lang/RuntimeException", name := "<init>", desc := "(Ljava/lang/String;)V" } : Jvm.MethodName)) ∈ lw_all := lw_mem 328 (by decide +kernel) rfl
theorem q309 : (Jvm.Cond.instanceMethod ({ cls := "java/lang/RuntimeException", name := "<init>", desc := "(Ljava/lang/String;)V" } : Jvm.MethodName)) ∈ lw_all := lw_mem 329 (by decide +kernel) rfl
theorem q310 : (Jvm.Cond.code ({ cls := "java/lang/RuntimeException", name := "<init>", desc := "(Ljava/lang/String;)V" } : Jvm.MethodName) prog_14_method_2_code (2 : Nat) (Option.none : Option Jvm.ClassFile.FieldType)) ∈ lw_all := lw_mem 330 (by decide +kernel) rfl
theorem q311 : (Jvm.Cond.methodLink "java/lang/RuntimeException" (7 : Nat) ({ cls := "java/lang/Exception", name := "<init>", desc := "(Ljava/lang/String;)V" } : Jvm.MethodName)) ∈ lw_all := lw_mem 331 (by decide +kernel) rfl
theorem q312 : (Jvm.Cond.instanceMethod ({ cls := "java/lang/Exception", name := "<init>", desc := "(Ljava/lang/String;)V" } : Jvm.MethodName)) ∈ lw_all := lw_mem 332 (by decide +kernel) rfl
theorem q313 : (Jvm.Cond.code ({ cls := "java/lang/Exception", name := "<init>", desc := "(Ljava/lang/String;)V" } : Jvm.MethodName) prog_9_method_2_code (2 : Nat) (Option.none : Option Jvm.ClassFile.FieldType)) ∈ lw_all := lw_mem 333 (by decide +kernel) rfl
theorem q314 : (Jvm.Cond.methodLink "java/lang/Exception" (7 : Nat) ({ cls := "java/lang/Throwable", name := "<init>", desc := "(Ljava/lang/String;)V" } : Jvm.MethodName)) ∈ lw_all := lw_mem 334 (by decide +kernel) rfl
theorem q315 : (Jvm.Cond.instanceMethod ({ cls := "java/lang/Throwable", name := "<init>", desc := "(Ljava/lang/String;)V" } : Jvm.MethodName)) ∈ lw_all := lw_mem 335 (by decide +kernel) rfl
theorem q316 : (Jvm.Cond.code ({ cls := "java/lang/Throwable", name := "<init>", desc := "(Ljava/lang/String;)V" } : Jvm.MethodName) prog_17_method_2_code (2 : Nat) (Option.none : Option Jvm.ClassFile.FieldType)) ∈ lw_all := lw_mem 336 (by decide +kernel) rfl
theorem q317 : (Jvm.Cond.fieldLink "java/lang/Throwable" (198 : Nat) "java/lang/Throwable" "backtrace" "Ljava/lang/Object;") ∈ lw_all := lw_mem 337 (by decide +kernel) rfl
theorem q318 : (Jvm.Cond.fieldLink "java/lang/Throwable" (31 : Nat) "java/lang/Throwable" "detailMessage" "Ljava/lang/String;") ∈ lw_all := lw_mem 338 (by decide +kernel) rfl
theorem q319 : (Jvm.Cond.fieldLink "java/lang/Throwable" (7 : Nat) "java/lang/Throwable" "cause" "Ljava/lang/Throwable;") ∈ lw_all := lw_mem 339 (by decide +kernel) rfl
theorem q320 : (Jvm.Cond.fieldLink "java/lang/Throwable" (17 : Nat) "java/lang/Throwable" "stackTrace" "[Ljava/lang/StackTraceElement;") ∈ lw_all := lw_mem 340 (by decide +kernel) rfl
theorem q321 : (Jvm.Cond.fieldLink "java/lang/Throwable" (24 : Nat) "java/lang/Throwable" "suppressedExceptions" "Ljava/util/List;") ∈ lw_all := lw_mem 341 (by decide +kernel) rfl
theorem q330 : (Jvm.Cond.arrayClass Jvm.ClassFile.FieldType.byte) ∈ lw_all := lw_mem 350 (by decide +kernel) rfl
theorem q331 : (Jvm.Cond.classLink "HayThieves" (30 : Nat) "java/lang/IllegalStateException") ∈ lw_all := lw_mem 351 (by decide +kernel) rfl
theorem q332 : (Jvm.Cond.instantiable "java/lang/IllegalStateException" (6 : Nat)) ∈ lw_all := lw_mem 352 (by decide +kernel) rfl
theorem q334 : (Jvm.Cond.selects "java/lang/IllegalStateException" ({ cls := "java/lang/Throwable", name := "fillInStackTrace", desc := "(I)Ljava/lang/Throwable;" } : Jvm.MethodName) ({ cls := "java/lang/Throwable", name := "fillInStackTrace", desc := "(I)Ljava/lang/Throwable;" } : Jvm.MethodName)) ∈ lw_all := lw_mem 354 (by decide +kernel) rfl
theorem q341 : (Jvm.Cond.methodLink "HayThieves" (34 : Nat) ({ cls := "java/lang/IllegalStateException", name := "<init>", desc := "(Ljava/lang/String;)V" } : Jvm.MethodName)) ∈ lw_all := lw_mem 361 (by decide +kernel) rfl
theorem q342 : (Jvm.Cond.instanceMethod ({ cls := "java/lang/IllegalStateException", name := "<init>", desc := "(Ljava/lang/String;)V" } : Jvm.MethodName)) ∈ lw_all := lw_mem 362 (by decide +kernel) rfl
theorem q343 : (Jvm.Cond.code ({ cls := "java/lang/IllegalStateException", name := "<init>", desc := "(Ljava/lang/String;)V" } : Jvm.MethodName) prog_11_method_2_code (2 : Nat) (Option.none : Option Jvm.ClassFile.FieldType)) ∈ lw_all := lw_mem 363 (by decide +kernel) rfl
theorem q344 : (Jvm.Cond.methodLink "java/lang/IllegalStateException" (7 : Nat) ({ cls := "java/lang/RuntimeException", name := "<init>", desc := "(Ljava/lang/String;)V" } : Jvm.MethodName)) ∈ lw_all := lw_mem 364 (by decide +kernel) rfl
theorem q347 : (Jvm.Cond.methodLink "HayThieves" (35 : Nat) ({ cls := "HayThieves$Yard", name := "addLad", desc := "(I)I" } : Jvm.MethodName)) ∈ lw_all := lw_mem 367 (by decide +kernel) rfl
theorem q348 : (Jvm.Cond.instanceMethod ({ cls := "HayThieves$Yard", name := "addLad", desc := "(I)I" } : Jvm.MethodName)) ∈ lw_all := lw_mem 368 (by decide +kernel) rfl
theorem q349 : (Jvm.Cond.selects "HayThieves$Yard" ({ cls := "HayThieves$Yard", name := "addLad", desc := "(I)I" } : Jvm.MethodName) ({ cls := "HayThieves$Yard", name := "addLad", desc := "(I)I" } : Jvm.MethodName)) ∈ lw_all := lw_mem 369 (by decide +kernel) rfl
theorem q350 : (Jvm.Cond.code ({ cls := "HayThieves$Yard", name := "addLad", desc := "(I)I" } : Jvm.MethodName) prog_5_method_2_code (2 : Nat) (Option.some Jvm.ClassFile.FieldType.int)) ∈ lw_all := lw_mem 370 (by decide +kernel) rfl
theorem q351 : (Jvm.Cond.methodLink "HayThievesLaw" (76 : Nat) ({ cls := "HayThievesLaw", name := "setWay", desc := "(LHayThieves;II[J)I" } : Jvm.MethodName)) ∈ lw_all := lw_mem 371 (by decide +kernel) rfl
theorem q352 : (Jvm.Cond.static ({ cls := "HayThievesLaw", name := "setWay", desc := "(LHayThieves;II[J)I" } : Jvm.MethodName)) ∈ lw_all := lw_mem 372 (by decide +kernel) rfl
theorem q353 : (Jvm.Cond.codeWith ({ cls := "HayThievesLaw", name := "setWay", desc := "(LHayThieves;II[J)I" } : Jvm.MethodName) method_4_code (5 : Nat) (Option.some Jvm.ClassFile.FieldType.int) [((0 : Nat), (10 : Nat), (13 : Nat), (21 : Nat))]) ∈ lw_all := lw_mem 373 (by decide +kernel) rfl
theorem q354 : (Jvm.Cond.classLink "HayThievesLaw" (21 : Nat) "java/lang/IndexOutOfBoundsException") ∈ lw_all := lw_mem 374 (by decide +kernel) rfl
theorem q355 : (Jvm.Cond.methodLink "HayThievesLaw" (17 : Nat) ({ cls := "HayThieves", name := "setWay", desc := "(II)I" } : Jvm.MethodName)) ∈ lw_all := lw_mem 375 (by decide +kernel) rfl
theorem q356 : (Jvm.Cond.instanceMethod ({ cls := "HayThieves", name := "setWay", desc := "(II)I" } : Jvm.MethodName)) ∈ lw_all := lw_mem 376 (by decide +kernel) rfl
theorem q357 : (Jvm.Cond.selects "HayThieves" ({ cls := "HayThieves", name := "setWay", desc := "(II)I" } : Jvm.MethodName) ({ cls := "HayThieves", name := "setWay", desc := "(II)I" } : Jvm.MethodName)) ∈ lw_all := lw_mem 377 (by decide +kernel) rfl
theorem q358 : (Jvm.Cond.code ({ cls := "HayThieves", name := "setWay", desc := "(II)I" } : Jvm.MethodName) prog_1_method_3_code (4 : Nat) (Option.some Jvm.ClassFile.FieldType.int)) ∈ lw_all := lw_mem 378 (by decide +kernel) rfl
theorem q359 : (Jvm.Cond.methodLink "HayThieves" (39 : Nat) ({ cls := "HayThieves", name := "needLad", desc := "(I)V" } : Jvm.MethodName)) ∈ lw_all := lw_mem 379 (by decide +kernel) rfl
theorem q361 : (Jvm.Cond.instanceMethod ({ cls := "HayThieves", name := "needLad", desc := "(I)V" } : Jvm.MethodName)) ∈ lw_all := lw_mem 381 (by decide +kernel) rfl
theorem q362 : (Jvm.Cond.code ({ cls := "HayThieves", name := "needLad", desc := "(I)V" } : Jvm.MethodName) prog_1_method_22_code (2 : Nat) (Option.none : Option Jvm.ClassFile.FieldType)) ∈ lw_all := lw_mem 382 (by decide +kernel) rfl
theorem q363 : (Jvm.Cond.classLink "HayThieves" (43 : Nat) "java/lang/IndexOutOfBoundsException") ∈ lw_all := lw_mem 383 (by decide +kernel) rfl
theorem q364 : (Jvm.Cond.instantiable "java/lang/IndexOutOfBoundsException" (6 : Nat)) ∈ lw_all := lw_mem 384 (by decide +kernel) rfl
theorem q366 : (Jvm.Cond.selects "java/lang/IndexOutOfBoundsException" ({ cls := "java/lang/Throwable", name := "fillInStackTrace", desc := "(I)Ljava/lang/Throwable;" } : Jvm.MethodName) ({ cls := "java/lang/Throwable", name := "fillInStackTrace", desc := "(I)Ljava/lang/Throwable;" } : Jvm.MethodName)) ∈ lw_all := lw_mem 386 (by decide +kernel) rfl
theorem q373 : (Jvm.Cond.methodLink "HayThieves" (47 : Nat) ({ cls := "java/lang/IndexOutOfBoundsException", name := "<init>", desc := "(Ljava/lang/String;)V" } : Jvm.MethodName)) ∈ lw_all := lw_mem 393 (by decide +kernel) rfl
theorem q374 : (Jvm.Cond.instanceMethod ({ cls := "java/lang/IndexOutOfBoundsException", name := "<init>", desc := "(Ljava/lang/String;)V" } : Jvm.MethodName)) ∈ lw_all := lw_mem 394 (by decide +kernel) rfl
theorem q375 : (Jvm.Cond.code ({ cls := "java/lang/IndexOutOfBoundsException", name := "<init>", desc := "(Ljava/lang/String;)V" } : Jvm.MethodName) prog_12_method_2_code (2 : Nat) (Option.none : Option Jvm.ClassFile.FieldType)) ∈ lw_all := lw_mem 395 (by decide +kernel) rfl
theorem q376 : (Jvm.Cond.methodLink "java/lang/IndexOutOfBoundsException" (7 : Nat) ({ cls := "java/lang/RuntimeException", name := "<init>", desc := "(Ljava/lang/String;)V" } : Jvm.MethodName)) ∈ lw_all := lw_mem 396 (by decide +kernel) rfl
theorem q380 : (Jvm.Cond.methodLink "HayThievesLaw" (80 : Nat) ({ cls := "HayThievesLaw", name := "setFork", desc := "(LHayThieves;I[J)I" } : Jvm.MethodName)) ∈ lw_all := lw_mem 400 (by decide +kernel) rfl
theorem q381 : (Jvm.Cond.static ({ cls := "HayThievesLaw", name := "setFork", desc := "(LHayThieves;I[J)I" } : Jvm.MethodName)) ∈ lw_all := lw_mem 401 (by decide +kernel) rfl
theorem q382 : (Jvm.Cond.codeWith ({ cls := "HayThievesLaw", name := "setFork", desc := "(LHayThieves;I[J)I" } : Jvm.MethodName) method_5_code (4 : Nat) (Option.some Jvm.ClassFile.FieldType.int) [((0 : Nat), (9 : Nat), (12 : Nat), (13 : Nat))]) ∈ lw_all := lw_mem 402 (by decide +kernel) rfl
theorem q383 : (Jvm.Cond.methodLink "HayThievesLaw" (23 : Nat) ({ cls := "HayThieves", name := "setFork", desc := "(I)I" } : Jvm.MethodName)) ∈ lw_all := lw_mem 403 (by decide +kernel) rfl
theorem q384 : (Jvm.Cond.instanceMethod ({ cls := "HayThieves", name := "setFork", desc := "(I)I" } : Jvm.MethodName)) ∈ lw_all := lw_mem 404 (by decide +kernel) rfl
theorem q385 : (Jvm.Cond.selects "HayThieves" ({ cls := "HayThieves", name := "setFork", desc := "(I)I" } : Jvm.MethodName) ({ cls := "HayThieves", name := "setFork", desc := "(I)I" } : Jvm.MethodName)) ∈ lw_all := lw_mem 405 (by decide +kernel) rfl
theorem q386 : (Jvm.Cond.code ({ cls := "HayThieves", name := "setFork", desc := "(I)I" } : Jvm.MethodName) prog_1_method_4_code (3 : Nat) (Option.some Jvm.ClassFile.FieldType.int)) ∈ lw_all := lw_mem 406 (by decide +kernel) rfl
theorem q388 : (Jvm.Cond.methodLink "HayThievesLaw" (83 : Nat) ({ cls := "HayThievesLaw", name := "bring", desc := "(LHayThieves;I[J)I" } : Jvm.MethodName)) ∈ lw_all := lw_mem 408 (by decide +kernel) rfl
theorem q389 : (Jvm.Cond.static ({ cls := "HayThievesLaw", name := "bring", desc := "(LHayThieves;I[J)I" } : Jvm.MethodName)) ∈ lw_all := lw_mem 409 (by decide +kernel) rfl
theorem q390 : (Jvm.Cond.codeWith ({ cls := "HayThievesLaw", name := "bring", desc := "(LHayThieves;I[J)I" } : Jvm.MethodName) method_6_code (4 : Nat) (Option.some Jvm.ClassFile.FieldType.int) [((0 : Nat), (9 : Nat), (12 : Nat), (13 : Nat)), ((0 : Nat), (9 : Nat), (15 : Nat), (15 : Nat))]) ∈ lw_all := lw_mem 410 (by decide +kernel) rfl
theorem q391 : (Jvm.Cond.methodLink "HayThievesLaw" (26 : Nat) ({ cls := "HayThieves", name := "bring", desc := "(I)I" } : Jvm.MethodName)) ∈ lw_all := lw_mem 411 (by decide +kernel) rfl
theorem q392 : (Jvm.Cond.instanceMethod ({ cls := "HayThieves", name := "bring", desc := "(I)I" } : Jvm.MethodName)) ∈ lw_all := lw_mem 412 (by decide +kernel) rfl
theorem q393 : (Jvm.Cond.selects "HayThieves" ({ cls := "HayThieves", name := "bring", desc := "(I)I" } : Jvm.MethodName) ({ cls := "HayThieves", name := "bring", desc := "(I)I" } : Jvm.MethodName)) ∈ lw_all := lw_mem 413 (by decide +kernel) rfl
theorem q394 : (Jvm.Cond.code ({ cls := "HayThieves", name := "bring", desc := "(I)I" } : Jvm.MethodName) prog_1_method_5_code (2 : Nat) (Option.some Jvm.ClassFile.FieldType.int)) ∈ lw_all := lw_mem 414 (by decide +kernel) rfl
theorem q397 : (Jvm.Cond.methodLink "HayThieves" (69 : Nat) ({ cls := "HayThieves$Yard", name := "addLoad", desc := "(I)I" } : Jvm.MethodName)) ∈ lw_all := lw_mem 417 (by decide +kernel) rfl
theorem q398 : (Jvm.Cond.instanceMethod ({ cls := "HayThieves$Yard", name := "addLoad", desc := "(I)I" } : Jvm.MethodName)) ∈ lw_all := lw_mem 418 (by decide +kernel) rfl
theorem q399 : (Jvm.Cond.selects "HayThieves$Yard" ({ cls := "HayThieves$Yard", name := "addLoad", desc := "(I)I" } : Jvm.MethodName) ({ cls := "HayThieves$Yard", name := "addLoad", desc := "(I)I" } : Jvm.MethodName)) ∈ lw_all := lw_mem 419 (by decide +kernel) rfl
theorem q400 : (Jvm.Cond.code ({ cls := "HayThieves$Yard", name := "addLoad", desc := "(I)I" } : Jvm.MethodName) prog_5_method_3_code (2 : Nat) (Option.some Jvm.ClassFile.FieldType.int)) ∈ lw_all := lw_mem 420 (by decide +kernel) rfl
theorem q401 : (Jvm.Cond.methodLink "HayThieves$Yard" (63 : Nat) ({ cls := "HayThieves$Yard", name := "setBales", desc := "(II)V" } : Jvm.MethodName)) ∈ lw_all := lw_mem 421 (by decide +kernel) rfl
theorem q402 : (Jvm.Cond.instanceMethod ({ cls := "HayThieves$Yard", name := "setBales", desc := "(II)V" } : Jvm.MethodName)) ∈ lw_all := lw_mem 422 (by decide +kernel) rfl
theorem q403 : (Jvm.Cond.selects "HayThieves$Yard" ({ cls := "HayThieves$Yard", name := "setBales", desc := "(II)V" } : Jvm.MethodName) ({ cls := "HayThieves$Yard", name := "setBales", desc := "(II)V" } : Jvm.MethodName)) ∈ lw_all := lw_mem 423 (by decide +kernel) rfl
theorem q404 : (Jvm.Cond.code ({ cls := "HayThieves$Yard", name := "setBales", desc := "(II)V" } : Jvm.MethodName) prog_5_method_11_code (3 : Nat) (Option.none : Option Jvm.ClassFile.FieldType)) ∈ lw_all := lw_mem 424 (by decide +kernel) rfl
theorem q405 : (Jvm.Cond.methodLink "HayThieves$Yard" (67 : Nat) ({ cls := "HayThieves$Yard", name := "wakeAll", desc := "()V" } : Jvm.MethodName)) ∈ lw_all := lw_mem 425 (by decide +kernel) rfl
theorem q406 : (Jvm.Cond.instanceMethod ({ cls := "HayThieves$Yard", name := "wakeAll", desc := "()V" } : Jvm.MethodName)) ∈ lw_all := lw_mem 426 (by decide +kernel) rfl
theorem q407 : (Jvm.Cond.selects "HayThieves$Yard" ({ cls := "HayThieves$Yard", name := "wakeAll", desc := "()V" } : Jvm.MethodName) ({ cls := "HayThieves$Yard", name := "wakeAll", desc := "()V" } : Jvm.MethodName)) ∈ lw_all := lw_mem 427 (by decide +kernel) rfl
theorem q408 : (Jvm.Cond.code ({ cls := "HayThieves$Yard", name := "wakeAll", desc := "()V" } : Jvm.MethodName) prog_5_method_4_code (2 : Nat) (Option.none : Option Jvm.ClassFile.FieldType)) ∈ lw_all := lw_mem 428 (by decide +kernel) rfl
theorem q409 : (Jvm.Cond.methodLink "HayThievesLaw" (86 : Nat) ({ cls := "HayThievesLaw", name := "swap", desc := "(LHayThieves;II[J)I" } : Jvm.MethodName)) ∈ lw_all := lw_mem 429 (by decide +kernel) rfl
theorem q410 : (Jvm.Cond.static ({ cls := "HayThievesLaw", name := "swap", desc := "(LHayThieves;II[J)I" } : Jvm.MethodName)) ∈ lw_all := lw_mem 430 (by decide +kernel) rfl
theorem q411 : (Jvm.Cond.codeWith ({ cls := "HayThievesLaw", name := "swap", desc := "(LHayThieves;II[J)I" } : Jvm.MethodName) method_7_code (5 : Nat) (Option.some Jvm.ClassFile.FieldType.int) [((0 : Nat), (10 : Nat), (13 : Nat), (21 : Nat)), ((0 : Nat), (10 : Nat), (17 : Nat), (13 : Nat))]) ∈ lw_all := lw_mem 431 (by decide +kernel) rfl
theorem q412 : (Jvm.Cond.methodLink "HayThievesLaw" (29 : Nat) ({ cls := "HayThieves", name := "swap", desc := "(II)I" } : Jvm.MethodName)) ∈ lw_all := lw_mem 432 (by decide +kernel) rfl
theorem q413 : (Jvm.Cond.instanceMethod ({ cls := "HayThieves", name := "swap", desc := "(II)I" } : Jvm.MethodName)) ∈ lw_all := lw_mem 433 (by decide +kernel) rfl
theorem q414 : (Jvm.Cond.selects "HayThieves" ({ cls := "HayThieves", name := "swap", desc := "(II)I" } : Jvm.MethodName) ({ cls := "HayThieves", name := "swap", desc := "(II)I" } : Jvm.MethodName)) ∈ lw_all := lw_mem 434 (by decide +kernel) rfl
theorem q415 : (Jvm.Cond.code ({ cls := "HayThieves", name := "swap", desc := "(II)I" } : Jvm.MethodName) prog_1_method_6_code (4 : Nat) (Option.some Jvm.ClassFile.FieldType.int)) ∈ lw_all := lw_mem 435 (by decide +kernel) rfl
theorem q417 : (Jvm.Cond.methodLink "HayThievesLaw" (89 : Nat) ({ cls := "HayThievesLaw", name := "wake", desc := "(LHayThieves;I[J)I" } : Jvm.MethodName)) ∈ lw_all := lw_mem 437 (by decide +kernel) rfl
theorem q418 : (Jvm.Cond.static ({ cls := "HayThievesLaw", name := "wake", desc := "(LHayThieves;I[J)I" } : Jvm.MethodName)) ∈ lw_all := lw_mem 438 (by decide +kernel) rfl
theorem q419 : (Jvm.Cond.codeWith ({ cls := "HayThievesLaw", name := "wake", desc := "(LHayThieves;I[J)I" } : Jvm.MethodName) method_8_code (4 : Nat) (Option.some Jvm.ClassFile.FieldType.int) [((0 : Nat), (9 : Nat), (12 : Nat), (21 : Nat)), ((0 : Nat), (9 : Nat), (15 : Nat), (15 : Nat))]) ∈ lw_all := lw_mem 439 (by decide +kernel) rfl
theorem q420 : (Jvm.Cond.methodLink "HayThievesLaw" (32 : Nat) ({ cls := "HayThieves", name := "wake", desc := "(I)I" } : Jvm.MethodName)) ∈ lw_all := lw_mem 440 (by decide +kernel) rfl
theorem q421 : (Jvm.Cond.instanceMethod ({ cls := "HayThieves", name := "wake", desc := "(I)I" } : Jvm.MethodName)) ∈ lw_all := lw_mem 441 (by decide +kernel) rfl
theorem q422 : (Jvm.Cond.selects "HayThieves" ({ cls := "HayThieves", name := "wake", desc := "(I)I" } : Jvm.MethodName) ({ cls := "HayThieves", name := "wake", desc := "(I)I" } : Jvm.MethodName)) ∈ lw_all := lw_mem 442 (by decide +kernel) rfl
theorem q423 : (Jvm.Cond.code ({ cls := "HayThieves", name := "wake", desc := "(I)I" } : Jvm.MethodName) prog_1_method_7_code (2 : Nat) (Option.some Jvm.ClassFile.FieldType.int)) ∈ lw_all := lw_mem 443 (by decide +kernel) rfl
theorem q425 : (Jvm.Cond.methodLink "HayThieves" (89 : Nat) ({ cls := "HayThieves$Yard", name := "sleepers", desc := "()I" } : Jvm.MethodName)) ∈ lw_all := lw_mem 445 (by decide +kernel) rfl
theorem q426 : (Jvm.Cond.methodLink "HayThievesLaw" (92 : Nat) ({ cls := "HayThievesLaw", name := "lad", desc := "(LHayThieves;II[J)I" } : Jvm.MethodName)) ∈ lw_all := lw_mem 446 (by decide +kernel) rfl
theorem q427 : (Jvm.Cond.static ({ cls := "HayThievesLaw", name := "lad", desc := "(LHayThieves;II[J)I" } : Jvm.MethodName)) ∈ lw_all := lw_mem 447 (by decide +kernel) rfl
theorem q428 : (Jvm.Cond.codeWith ({ cls := "HayThievesLaw", name := "lad", desc := "(LHayThieves;II[J)I" } : Jvm.MethodName) method_9_code (5 : Nat) (Option.some Jvm.ClassFile.FieldType.int) [((0 : Nat), (10 : Nat), (13 : Nat), (21 : Nat))]) ∈ lw_all := lw_mem 448 (by decide +kernel) rfl
theorem q429 : (Jvm.Cond.methodLink "HayThievesLaw" (35 : Nat) ({ cls := "HayThieves", name := "lad", desc := "(II)I" } : Jvm.MethodName)) ∈ lw_all := lw_mem 449 (by decide +kernel) rfl
theorem q430 : (Jvm.Cond.instanceMethod ({ cls := "HayThieves", name := "lad", desc := "(II)I" } : Jvm.MethodName)) ∈ lw_all := lw_mem 450 (by decide +kernel) rfl
theorem q431 : (Jvm.Cond.selects "HayThieves" ({ cls := "HayThieves", name := "lad", desc := "(II)I" } : Jvm.MethodName) ({ cls := "HayThieves", name := "lad", desc := "(II)I" } : Jvm.MethodName)) ∈ lw_all := lw_mem 451 (by decide +kernel) rfl
theorem q432 : (Jvm.Cond.code ({ cls := "HayThieves", name := "lad", desc := "(II)I" } : Jvm.MethodName) prog_1_method_8_code (3 : Nat) (Option.some Jvm.ClassFile.FieldType.int)) ∈ lw_all := lw_mem 452 (by decide +kernel) rfl
theorem q434 : (Jvm.Cond.methodLink "HayThievesLaw" (95 : Nat) ({ cls := "HayThievesLaw", name := "cart", desc := "(LHayThieves;II[J)I" } : Jvm.MethodName)) ∈ lw_all := lw_mem 454 (by decide +kernel) rfl
theorem q435 : (Jvm.Cond.static ({ cls := "HayThievesLaw", name := "cart", desc := "(LHayThieves;II[J)I" } : Jvm.MethodName)) ∈ lw_all := lw_mem 455 (by decide +kernel) rfl
theorem q436 : (Jvm.Cond.codeWith ({ cls := "HayThievesLaw", name := "cart", desc := "(LHayThieves;II[J)I" } : Jvm.MethodName) method_10_code (5 : Nat) (Option.some Jvm.ClassFile.FieldType.int) [((0 : Nat), (10 : Nat), (13 : Nat), (21 : Nat))]) ∈ lw_all := lw_mem 456 (by decide +kernel) rfl
theorem q437 : (Jvm.Cond.methodLink "HayThievesLaw" (38 : Nat) ({ cls := "HayThieves", name := "cart", desc := "(II)I" } : Jvm.MethodName)) ∈ lw_all := lw_mem 457 (by decide +kernel) rfl
theorem q438 : (Jvm.Cond.instanceMethod ({ cls := "HayThieves", name := "cart", desc := "(II)I" } : Jvm.MethodName)) ∈ lw_all := lw_mem 458 (by decide +kernel) rfl
theorem q439 : (Jvm.Cond.selects "HayThieves" ({ cls := "HayThieves", name := "cart", desc := "(II)I" } : Jvm.MethodName) ({ cls := "HayThieves", name := "cart", desc := "(II)I" } : Jvm.MethodName)) ∈ lw_all := lw_mem 459 (by decide +kernel) rfl
theorem q440 : (Jvm.Cond.code ({ cls := "HayThieves", name := "cart", desc := "(II)I" } : Jvm.MethodName) prog_1_method_9_code (3 : Nat) (Option.some Jvm.ClassFile.FieldType.int)) ∈ lw_all := lw_mem 460 (by decide +kernel) rfl
theorem q442 : (Jvm.Cond.methodLink "HayThievesLaw" (98 : Nat) ({ cls := "HayThievesLaw", name := "load", desc := "(LHayThieves;II[J)I" } : Jvm.MethodName)) ∈ lw_all := lw_mem 462 (by decide +kernel) rfl
theorem q443 : (Jvm.Cond.static ({ cls := "HayThievesLaw", name := "load", desc := "(LHayThieves;II[J)I" } : Jvm.MethodName)) ∈ lw_all := lw_mem 463 (by decide +kernel) rfl
theorem q444 : (Jvm.Cond.codeWith ({ cls := "HayThievesLaw", name := "load", desc := "(LHayThieves;II[J)I" } : Jvm.MethodName) method_11_code (5 : Nat) (Option.some Jvm.ClassFile.FieldType.int) [((0 : Nat), (10 : Nat), (13 : Nat), (21 : Nat))]) ∈ lw_all := lw_mem 464 (by decide +kernel) rfl
theorem q445 : (Jvm.Cond.methodLink "HayThievesLaw" (41 : Nat) ({ cls := "HayThieves", name := "load", desc := "(II)I" } : Jvm.MethodName)) ∈ lw_all := lw_mem 465 (by decide +kernel) rfl
theorem q446 : (Jvm.Cond.instanceMethod ({ cls := "HayThieves", name := "load", desc := "(II)I" } : Jvm.MethodName)) ∈ lw_all := lw_mem 466 (by decide +kernel) rfl
theorem q447 : (Jvm.Cond.selects "HayThieves" ({ cls := "HayThieves", name := "load", desc := "(II)I" } : Jvm.MethodName) ({ cls := "HayThieves", name := "load", desc := "(II)I" } : Jvm.MethodName)) ∈ lw_all := lw_mem 467 (by decide +kernel) rfl
theorem q448 : (Jvm.Cond.code ({ cls := "HayThieves", name := "load", desc := "(II)I" } : Jvm.MethodName) prog_1_method_10_code (3 : Nat) (Option.some Jvm.ClassFile.FieldType.int)) ∈ lw_all := lw_mem 468 (by decide +kernel) rfl
theorem q449 : (Jvm.Cond.methodLink "HayThieves" (106 : Nat) ({ cls := "HayThieves", name := "needLoad", desc := "(I)V" } : Jvm.MethodName)) ∈ lw_all := lw_mem 469 (by decide +kernel) rfl
theorem q451 : (Jvm.Cond.instanceMethod ({ cls := "HayThieves", name := "needLoad", desc := "(I)V" } : Jvm.MethodName)) ∈ lw_all := lw_mem 471 (by decide +kernel) rfl
theorem q452 : (Jvm.Cond.code ({ cls := "HayThieves", name := "needLoad", desc := "(I)V" } : Jvm.MethodName) prog_1_method_23_code (2 : Nat) (Option.none : Option Jvm.ClassFile.FieldType)) ∈ lw_all := lw_mem 472 (by decide +kernel) rfl
theorem q455 : (Jvm.Cond.methodLink "HayThievesLaw" (101 : Nat) ({ cls := "HayThievesLaw", name := "count", desc := "(LHayThieves;I[J)I" } : Jvm.MethodName)) ∈ lw_all := lw_mem 475 (by decide +kernel) rfl
theorem q456 : (Jvm.Cond.static ({ cls := "HayThievesLaw", name := "count", desc := "(LHayThieves;I[J)I" } : Jvm.MethodName)) ∈ lw_all := lw_mem 476 (by decide +kernel) rfl
theorem q457 : (Jvm.Cond.codeWith ({ cls := "HayThievesLaw", name := "count", desc := "(LHayThieves;I[J)I" } : Jvm.MethodName) method_12_code (4 : Nat) (Option.some Jvm.ClassFile.FieldType.int) [((0 : Nat), (9 : Nat), (12 : Nat), (21 : Nat))]) ∈ lw_all := lw_mem 477 (by decide +kernel) rfl
theorem q458 : (Jvm.Cond.methodLink "HayThievesLaw" (44 : Nat) ({ cls := "HayThieves", name := "count", desc := "(I)I" } : Jvm.MethodName)) ∈ lw_all := lw_mem 478 (by decide +kernel) rfl
theorem q459 : (Jvm.Cond.instanceMethod ({ cls := "HayThieves", name := "count", desc := "(I)I" } : Jvm.MethodName)) ∈ lw_all := lw_mem 479 (by decide +kernel) rfl
theorem q460 : (Jvm.Cond.selects "HayThieves" ({ cls := "HayThieves", name := "count", desc := "(I)I" } : Jvm.MethodName) ({ cls := "HayThieves", name := "count", desc := "(I)I" } : Jvm.MethodName)) ∈ lw_all := lw_mem 480 (by decide +kernel) rfl
theorem q461 : (Jvm.Cond.code ({ cls := "HayThieves", name := "count", desc := "(I)I" } : Jvm.MethodName) prog_1_method_11_code (2 : Nat) (Option.some Jvm.ClassFile.FieldType.int)) ∈ lw_all := lw_mem 481 (by decide +kernel) rfl
theorem q463 : (Jvm.Cond.methodLink "HayThievesLaw" (104 : Nat) ({ cls := "HayThievesLaw", name := "victim", desc := "(LHayThieves;I[J)I" } : Jvm.MethodName)) ∈ lw_all := lw_mem 483 (by decide +kernel) rfl
theorem q464 : (Jvm.Cond.static ({ cls := "HayThievesLaw", name := "victim", desc := "(LHayThieves;I[J)I" } : Jvm.MethodName)) ∈ lw_all := lw_mem 484 (by decide +kernel) rfl
theorem q465 : (Jvm.Cond.codeWith ({ cls := "HayThievesLaw", name := "victim", desc := "(LHayThieves;I[J)I" } : Jvm.MethodName) method_13_code (4 : Nat) (Option.some Jvm.ClassFile.FieldType.int) [((0 : Nat), (9 : Nat), (12 : Nat), (21 : Nat))]) ∈ lw_all := lw_mem 485 (by decide +kernel) rfl
theorem q466 : (Jvm.Cond.methodLink "HayThievesLaw" (47 : Nat) ({ cls := "HayThieves", name := "victim", desc := "(I)I" } : Jvm.MethodName)) ∈ lw_all := lw_mem 486 (by decide +kernel) rfl
theorem q467 : (Jvm.Cond.instanceMethod ({ cls := "HayThieves", name := "victim", desc := "(I)I" } : Jvm.MethodName)) ∈ lw_all := lw_mem 487 (by decide +kernel) rfl
theorem q468 : (Jvm.Cond.selects "HayThieves" ({ cls := "HayThieves", name := "victim", desc := "(I)I" } : Jvm.MethodName) ({ cls := "HayThieves", name := "victim", desc := "(I)I" } : Jvm.MethodName)) ∈ lw_all := lw_mem 488 (by decide +kernel) rfl
theorem q469 : (Jvm.Cond.code ({ cls := "HayThieves", name := "victim", desc := "(I)I" } : Jvm.MethodName) prog_1_method_12_code (2 : Nat) (Option.some Jvm.ClassFile.FieldType.int)) ∈ lw_all := lw_mem 489 (by decide +kernel) rfl
theorem q470 : (Jvm.Cond.methodLink "HayThieves" (121 : Nat) ({ cls := "HayThieves$Yard", name := "victimOf", desc := "(LHayThieves$Lad;)I" } : Jvm.MethodName)) ∈ lw_all := lw_mem 490 (by decide +kernel) rfl
theorem q471 : (Jvm.Cond.instanceMethod ({ cls := "HayThieves$Yard", name := "victimOf", desc := "(LHayThieves$Lad;)I" } : Jvm.MethodName)) ∈ lw_all := lw_mem 491 (by decide +kernel) rfl
theorem q472 : (Jvm.Cond.selects "HayThieves$Yard" ({ cls := "HayThieves$Yard", name := "victimOf", desc := "(LHayThieves$Lad;)I" } : Jvm.MethodName) ({ cls := "HayThieves$Yard", name := "victimOf", desc := "(LHayThieves$Lad;)I" } : Jvm.MethodName)) ∈ lw_all := lw_mem 492 (by decide +kernel) rfl
theorem q473 : (Jvm.Cond.code ({ cls := "HayThieves$Yard", name := "victimOf", desc := "(LHayThieves$Lad;)I" } : Jvm.MethodName) prog_5_method_13_code (2 : Nat) (Option.some Jvm.ClassFile.FieldType.int)) ∈ lw_all := lw_mem 493 (by decide +kernel) rfl
theorem q474 : (Jvm.Cond.methodLink "HayThieves$Yard" (98 : Nat) ({ cls := "HayThieves$Yard", name := "fullestCart", desc := "(LHayThieves$Lad;)I" } : Jvm.MethodName)) ∈ lw_all := lw_mem 494 (by decide +kernel) rfl
theorem q475 : (Jvm.Cond.instanceMethod ({ cls := "HayThieves$Yard", name := "fullestCart", desc := "(LHayThieves$Lad;)I" } : Jvm.MethodName)) ∈ lw_all := lw_mem 495 (by decide +kernel) rfl
theorem q476 : (Jvm.Cond.selects "HayThieves$Yard" ({ cls := "HayThieves$Yard", name := "fullestCart", desc := "(LHayThieves$Lad;)I" } : Jvm.MethodName) ({ cls := "HayThieves$Yard", name := "fullestCart", desc := "(LHayThieves$Lad;)I" } : Jvm.MethodName)) ∈ lw_all := lw_mem 496 (by decide +kernel) rfl
theorem q477 : (Jvm.Cond.code ({ cls := "HayThieves$Yard", name := "fullestCart", desc := "(LHayThieves$Lad;)I" } : Jvm.MethodName) prog_5_method_16_code (5 : Nat) (Option.some Jvm.ClassFile.FieldType.int)) ∈ lw_all := lw_mem 497 (by decide +kernel) rfl
theorem q478 : (Jvm.Cond.methodLink "HayThieves$Yard" (120 : Nat) ({ cls := "HayThieves$Yard", name := "canBeRobbed", desc := "(LHayThieves$Lad;LHayThieves$Lad;)Z" } : Jvm.MethodName)) ∈ lw_all := lw_mem 498 (by decide +kernel) rfl
theorem q479 : (Jvm.Cond.instanceMethod ({ cls := "HayThieves$Yard", name := "canBeRobbed", desc := "(LHayThieves$Lad;LHayThieves$Lad;)Z" } : Jvm.MethodName)) ∈ lw_all := lw_mem 499 (by decide +kernel) rfl
theorem q480 : (Jvm.Cond.selects "HayThieves$Yard" ({ cls := "HayThieves$Yard", name := "canBeRobbed", desc := "(LHayThieves$Lad;LHayThieves$Lad;)Z" } : Jvm.MethodName) ({ cls := "HayThieves$Yard", name := "canBeRobbed", desc := "(LHayThieves$Lad;LHayThieves$Lad;)Z" } : Jvm.MethodName)) ∈ lw_all := lw_mem 500 (by decide +kernel) rfl
theorem q481 : (Jvm.Cond.code ({ cls := "HayThieves$Yard", name := "canBeRobbed", desc := "(LHayThieves$Lad;LHayThieves$Lad;)Z" } : Jvm.MethodName) prog_5_method_14_code (3 : Nat) (Option.some Jvm.ClassFile.FieldType.boolean)) ∈ lw_all := lw_mem 501 (by decide +kernel) rfl
theorem q482 : (Jvm.Cond.methodLink "HayThieves$Yard" (102 : Nat) ({ cls := "HayThieves$Yard", name := "greatestFarHeap", desc := "(LHayThieves$Lad;)I" } : Jvm.MethodName)) ∈ lw_all := lw_mem 502 (by decide +kernel) rfl
theorem q483 : (Jvm.Cond.instanceMethod ({ cls := "HayThieves$Yard", name := "greatestFarHeap", desc := "(LHayThieves$Lad;)I" } : Jvm.MethodName)) ∈ lw_all := lw_mem 503 (by decide +kernel) rfl
theorem q484 : (Jvm.Cond.selects "HayThieves$Yard" ({ cls := "HayThieves$Yard", name := "greatestFarHeap", desc := "(LHayThieves$Lad;)I" } : Jvm.MethodName) ({ cls := "HayThieves$Yard", name := "greatestFarHeap", desc := "(LHayThieves$Lad;)I" } : Jvm.MethodName)) ∈ lw_all := lw_mem 504 (by decide +kernel) rfl
theorem q485 : (Jvm.Cond.code ({ cls := "HayThieves$Yard", name := "greatestFarHeap", desc := "(LHayThieves$Lad;)I" } : Jvm.MethodName) prog_5_method_17_code (6 : Nat) (Option.some Jvm.ClassFile.FieldType.int)) ∈ lw_all := lw_mem 505 (by decide +kernel) rfl
theorem q486 : (Jvm.Cond.methodLink "HayThieves$Yard" (124 : Nat) ({ cls := "HayThieves$Cart", name := "farHeap", desc := "()I" } : Jvm.MethodName)) ∈ lw_all := lw_mem 506 (by decide +kernel) rfl
theorem q487 : (Jvm.Cond.instanceMethod ({ cls := "HayThieves$Cart", name := "farHeap", desc := "()I" } : Jvm.MethodName)) ∈ lw_all := lw_mem 507 (by decide +kernel) rfl
theorem q488 : (Jvm.Cond.selects "HayThieves$Cart" ({ cls := "HayThieves$Cart", name := "farHeap", desc := "()I" } : Jvm.MethodName) ({ cls := "HayThieves$Cart", name := "farHeap", desc := "()I" } : Jvm.MethodName)) ∈ lw_all := lw_mem 508 (by decide +kernel) rfl
theorem q489 : (Jvm.Cond.code ({ cls := "HayThieves$Cart", name := "farHeap", desc := "()I" } : Jvm.MethodName) prog_2_method_3_code (1 : Nat) (Option.some Jvm.ClassFile.FieldType.int)) ∈ lw_all := lw_mem 509 (by decide +kernel) rfl
theorem q490 : (Jvm.Cond.methodLink "HayThieves$Yard" (127 : Nat) ({ cls := "HayThieves$Yard", name := "balesOf", desc := "(I)I" } : Jvm.MethodName)) ∈ lw_all := lw_mem 510 (by decide +kernel) rfl
theorem q491 : (Jvm.Cond.methodLink "HayThieves$Yard" (105 : Nat) ({ cls := "HayThieves$Yard", name := "nextWithHay", desc := "(LHayThieves$Lad;)I" } : Jvm.MethodName)) ∈ lw_all := lw_mem 511 (by decide +kernel) rfl
theorem q492 : (Jvm.Cond.instanceMethod ({ cls := "HayThieves$Yard", name := "nextWithHay", desc := "(LHayThieves$Lad;)I" } : Jvm.MethodName)) ∈ lw_all := lw_mem 512 (by decide +kernel) rfl
theorem q493 : (Jvm.Cond.selects "HayThieves$Yard" ({ cls := "HayThieves$Yard", name := "nextWithHay", desc := "(LHayThieves$Lad;)I" } : Jvm.MethodName) ({ cls := "HayThieves$Yard", name := "nextWithHay", desc := "(LHayThieves$Lad;)I" } : Jvm.MethodName)) ∈ lw_all := lw_mem 513 (by decide +kernel) rfl
theorem q494 : (Jvm.Cond.code ({ cls := "HayThieves$Yard", name := "nextWithHay", desc := "(LHayThieves$Lad;)I" } : Jvm.MethodName) prog_5_method_15_code (4 : Nat) (Option.some Jvm.ClassFile.FieldType.int)) ∈ lw_all := lw_mem 514 (by decide +kernel) rfl
theorem q495 : (Jvm.Cond.methodLink "HayThievesLaw" (111 : Nat) ({ cls := "HayThievesLaw", name := "pass", desc := "(LHayThieves;I[J)I" } : Jvm.MethodName)) ∈ lw_all := lw_mem 515 (by decide +kernel) rfl
theorem q496 : (Jvm.Cond.static ({ cls := "HayThievesLaw", name := "pass", desc := "(LHayThieves;I[J)I" } : Jvm.MethodName)) ∈ lw_all := lw_mem 516 (by decide +kernel) rfl
theorem q497 : (Jvm.Cond.codeWith ({ cls := "HayThievesLaw", name := "pass", desc := "(LHayThieves;I[J)I" } : Jvm.MethodName) method_14_code (4 : Nat) (Option.some Jvm.ClassFile.FieldType.int) [((0 : Nat), (9 : Nat), (12 : Nat), (13 : Nat))]) ∈ lw_all := lw_mem 517 (by decide +kernel) rfl
theorem q498 : (Jvm.Cond.methodLink "HayThievesLaw" (50 : Nat) ({ cls := "HayThieves", name := "pass", desc := "(I)I" } : Jvm.MethodName)) ∈ lw_all := lw_mem 518 (by decide +kernel) rfl
theorem q499 : (Jvm.Cond.instanceMethod ({ cls := "HayThieves", name := "pass", desc := "(I)I" } : Jvm.MethodName)) ∈ lw_all := lw_mem 519 (by decide +kernel) rfl
theorem q500 : (Jvm.Cond.selects "HayThieves" ({ cls := "HayThieves", name := "pass", desc := "(I)I" } : Jvm.MethodName) ({ cls := "HayThieves", name := "pass", desc := "(I)I" } : Jvm.MethodName)) ∈ lw_all := lw_mem 520 (by decide +kernel) rfl
theorem q501 : (Jvm.Cond.code ({ cls := "HayThieves", name := "pass", desc := "(I)I" } : Jvm.MethodName) prog_1_method_14_code (3 : Nat) (Option.some Jvm.ClassFile.FieldType.int)) ∈ lw_all := lw_mem 521 (by decide +kernel) rfl
theorem q502 : (Jvm.Cond.methodLink "HayThieves" (128 : Nat) ({ cls := "HayThieves", name := "needMinutes", desc := "(II)V" } : Jvm.MethodName)) ∈ lw_all := lw_mem 522 (by decide +kernel) rfl
theorem q503 : (Jvm.Cond.static ({ cls := "HayThieves", name := "needMinutes", desc := "(II)V" } : Jvm.MethodName)) ∈ lw_all := lw_mem 523 (by decide +kernel) rfl
theorem q504 : (Jvm.Cond.code ({ cls := "HayThieves", name := "needMinutes", desc := "(II)V" } : Jvm.MethodName) prog_1_method_24_code (2 : Nat) (Option.none : Option Jvm.ClassFile.FieldType)) ∈ lw_all := lw_mem 524 (by decide +kernel) rfl
theorem q506 : (Jvm.Cond.methodLink "HayThieves" (132 : Nat) ({ cls := "HayThieves$Yard", name := "runMinutes", desc := "(I)V" } : Jvm.MethodName)) ∈ lw_all := lw_mem 526 (by decide +kernel) rfl
theorem q507 : (Jvm.Cond.instanceMethod ({ cls := "HayThieves$Yard", name := "runMinutes", desc := "(I)V" } : Jvm.MethodName)) ∈ lw_all := lw_mem 527 (by decide +kernel) rfl
theorem q508 : (Jvm.Cond.selects "HayThieves$Yard" ({ cls := "HayThieves$Yard", name := "runMinutes", desc := "(I)V" } : Jvm.MethodName) ({ cls := "HayThieves$Yard", name := "runMinutes", desc := "(I)V" } : Jvm.MethodName)) ∈ lw_all := lw_mem 528 (by decide +kernel) rfl
theorem q509 : (Jvm.Cond.code ({ cls := "HayThieves$Yard", name := "runMinutes", desc := "(I)V" } : Jvm.MethodName) prog_5_method_18_code (4 : Nat) (Option.none : Option Jvm.ClassFile.FieldType)) ∈ lw_all := lw_mem 529 (by decide +kernel) rfl
theorem q510 : (Jvm.Cond.methodLink "HayThieves$Yard" (130 : Nat) ({ cls := "HayThieves$Yard", name := "takeTurn", desc := "(LHayThieves$Lad;)V" } : Jvm.MethodName)) ∈ lw_all := lw_mem 530 (by decide +kernel) rfl
theorem q511 : (Jvm.Cond.instanceMethod ({ cls := "HayThieves$Yard", name := "takeTurn", desc := "(LHayThieves$Lad;)V" } : Jvm.MethodName)) ∈ lw_all := lw_mem 531 (by decide +kernel) rfl
theorem q512 : (Jvm.Cond.selects "HayThieves$Yard" ({ cls := "HayThieves$Yard", name := "takeTurn", desc := "(LHayThieves$Lad;)V" } : Jvm.MethodName) ({ cls := "HayThieves$Yard", name := "takeTurn", desc := "(LHayThieves$Lad;)V" } : Jvm.MethodName)) ∈ lw_all := lw_mem 532 (by decide +kernel) rfl
theorem q513 : (Jvm.Cond.code ({ cls := "HayThieves$Yard", name := "takeTurn", desc := "(LHayThieves$Lad;)V" } : Jvm.MethodName) prog_5_method_19_code (3 : Nat) (Option.none : Option Jvm.ClassFile.FieldType)) ∈ lw_all := lw_mem 533 (by decide +kernel) rfl
theorem q514 : (Jvm.Cond.methodLink "HayThieves$Yard" (140 : Nat) ({ cls := "HayThieves$Yard", name := "takeFromOwnCart", desc := "(LHayThieves$Lad;)V" } : Jvm.MethodName)) ∈ lw_all := lw_mem 534 (by decide +kernel) rfl
theorem q515 : (Jvm.Cond.instanceMethod ({ cls := "HayThieves$Yard", name := "takeFromOwnCart", desc := "(LHayThieves$Lad;)V" } : Jvm.MethodName)) ∈ lw_all := lw_mem 535 (by decide +kernel) rfl
theorem q516 : (Jvm.Cond.selects "HayThieves$Yard" ({ cls := "HayThieves$Yard", name := "takeFromOwnCart", desc := "(LHayThieves$Lad;)V" } : Jvm.MethodName) ({ cls := "HayThieves$Yard", name := "takeFromOwnCart", desc := "(LHayThieves$Lad;)V" } : Jvm.MethodName)) ∈ lw_all := lw_mem 536 (by decide +kernel) rfl
theorem q517 : (Jvm.Cond.code ({ cls := "HayThieves$Yard", name := "takeFromOwnCart", desc := "(LHayThieves$Lad;)V" } : Jvm.MethodName) prog_5_method_20_code (3 : Nat) (Option.none : Option Jvm.ClassFile.FieldType)) ∈ lw_all := lw_mem 537 (by decide +kernel) rfl
theorem q518 : (Jvm.Cond.methodLink "HayThieves$Yard" (162 : Nat) ({ cls := "HayThieves$Cart", name := "takeNear", desc := "()I" } : Jvm.MethodName)) ∈ lw_all := lw_mem 538 (by decide +kernel) rfl
theorem q519 : (Jvm.Cond.instanceMethod ({ cls := "HayThieves$Cart", name := "takeNear", desc := "()I" } : Jvm.MethodName)) ∈ lw_all := lw_mem 539 (by decide +kernel) rfl
theorem q520 : (Jvm.Cond.selects "HayThieves$Cart" ({ cls := "HayThieves$Cart", name := "takeNear", desc := "()I" } : Jvm.MethodName) ({ cls := "HayThieves$Cart", name := "takeNear", desc := "()I" } : Jvm.MethodName)) ∈ lw_all := lw_mem 540 (by decide +kernel) rfl
theorem q521 : (Jvm.Cond.code ({ cls := "HayThieves$Cart", name := "takeNear", desc := "()I" } : Jvm.MethodName) prog_2_method_6_code (2 : Nat) (Option.some Jvm.ClassFile.FieldType.int)) ∈ lw_all := lw_mem 541 (by decide +kernel) rfl
theorem q522 : (Jvm.Cond.methodLink "HayThieves$Cart" (23 : Nat) ({ cls := "HayThieves$Cart", name := "heapAt", desc := "(I)I" } : Jvm.MethodName)) ∈ lw_all := lw_mem 542 (by decide +kernel) rfl
theorem q523 : (Jvm.Cond.methodLink "HayThieves$Yard" (165 : Nat) ({ cls := "HayThieves$Lad", name := "take", desc := "(II)V" } : Jvm.MethodName)) ∈ lw_all := lw_mem 543 (by decide +kernel) rfl
theorem q524 : (Jvm.Cond.instanceMethod ({ cls := "HayThieves$Lad", name := "take", desc := "(II)V" } : Jvm.MethodName)) ∈ lw_all := lw_mem 544 (by decide +kernel) rfl
theorem q525 : (Jvm.Cond.selects "HayThieves$Lad" ({ cls := "HayThieves$Lad", name := "take", desc := "(II)V" } : Jvm.MethodName) ({ cls := "HayThieves$Lad", name := "take", desc := "(II)V" } : Jvm.MethodName)) ∈ lw_all := lw_mem 545 (by decide +kernel) rfl
theorem q526 : (Jvm.Cond.code ({ cls := "HayThieves$Lad", name := "take", desc := "(II)V" } : Jvm.MethodName) prog_3_method_5_code (3 : Nat) (Option.none : Option Jvm.ClassFile.FieldType)) ∈ lw_all := lw_mem 546 (by decide +kernel) rfl
theorem q527 : (Jvm.Cond.methodLink "HayThieves$Yard" (143 : Nat) ({ cls := "HayThieves$Yard", name := "joinHalves", desc := "(LHayThieves$Lad;)V" } : Jvm.MethodName)) ∈ lw_all := lw_mem 547 (by decide +kernel) rfl
theorem q528 : (Jvm.Cond.instanceMethod ({ cls := "HayThieves$Yard", name := "joinHalves", desc := "(LHayThieves$Lad;)V" } : Jvm.MethodName)) ∈ lw_all := lw_mem 548 (by decide +kernel) rfl
theorem q529 : (Jvm.Cond.selects "HayThieves$Yard" ({ cls := "HayThieves$Yard", name := "joinHalves", desc := "(LHayThieves$Lad;)V" } : Jvm.MethodName) ({ cls := "HayThieves$Yard", name := "joinHalves", desc := "(LHayThieves$Lad;)V" } : Jvm.MethodName)) ∈ lw_all := lw_mem 549 (by decide +kernel) rfl
theorem q530 : (Jvm.Cond.code ({ cls := "HayThieves$Yard", name := "joinHalves", desc := "(LHayThieves$Lad;)V" } : Jvm.MethodName) prog_5_method_21_code (3 : Nat) (Option.none : Option Jvm.ClassFile.FieldType)) ∈ lw_all := lw_mem 550 (by decide +kernel) rfl
theorem q531 : (Jvm.Cond.methodLink "HayThieves$Yard" (168 : Nat) ({ cls := "HayThieves$Yard", name := "finishHeap", desc := "(LHayThieves$Lad;I)V" } : Jvm.MethodName)) ∈ lw_all := lw_mem 551 (by decide +kernel) rfl
theorem q532 : (Jvm.Cond.instanceMethod ({ cls := "HayThieves$Yard", name := "finishHeap", desc := "(LHayThieves$Lad;I)V" } : Jvm.MethodName)) ∈ lw_all := lw_mem 552 (by decide +kernel) rfl
theorem q533 : (Jvm.Cond.selects "HayThieves$Yard" ({ cls := "HayThieves$Yard", name := "finishHeap", desc := "(LHayThieves$Lad;I)V" } : Jvm.MethodName) ({ cls := "HayThieves$Yard", name := "finishHeap", desc := "(LHayThieves$Lad;I)V" } : Jvm.MethodName)) ∈ lw_all := lw_mem 553 (by decide +kernel) rfl
theorem q534 : (Jvm.Cond.code ({ cls := "HayThieves$Yard", name := "finishHeap", desc := "(LHayThieves$Lad;I)V" } : Jvm.MethodName) prog_5_method_26_code (4 : Nat) (Option.none : Option Jvm.ClassFile.FieldType)) ∈ lw_all := lw_mem 554 (by decide +kernel) rfl
theorem q535 : (Jvm.Cond.methodLink "HayThieves$Yard" (185 : Nat) ({ cls := "HayThieves$Yard", name := "loadOf", desc := "(I)LHayThieves$Load;" } : Jvm.MethodName)) ∈ lw_all := lw_mem 555 (by decide +kernel) rfl
theorem q536 : (Jvm.Cond.instanceMethod ({ cls := "HayThieves$Yard", name := "loadOf", desc := "(I)LHayThieves$Load;" } : Jvm.MethodName)) ∈ lw_all := lw_mem 556 (by decide +kernel) rfl
theorem q537 : (Jvm.Cond.selects "HayThieves$Yard" ({ cls := "HayThieves$Yard", name := "loadOf", desc := "(I)LHayThieves$Load;" } : Jvm.MethodName) ({ cls := "HayThieves$Yard", name := "loadOf", desc := "(I)LHayThieves$Load;" } : Jvm.MethodName)) ∈ lw_all := lw_mem 557 (by decide +kernel) rfl
theorem q538 : (Jvm.Cond.code ({ cls := "HayThieves$Yard", name := "loadOf", desc := "(I)LHayThieves$Load;" } : Jvm.MethodName) prog_5_method_12_code (2 : Nat) (Option.some (Jvm.ClassFile.FieldType.object "HayThieves$Load"))) ∈ lw_all := lw_mem 558 (by decide +kernel) rfl
theorem q539 : (Jvm.Cond.methodLink "HayThieves$Yard" (204 : Nat) ({ cls := "HayThieves$Yard", name := "otherHalf", desc := "(I)I" } : Jvm.MethodName)) ∈ lw_all := lw_mem 559 (by decide +kernel) rfl
theorem q540 : (Jvm.Cond.instanceMethod ({ cls := "HayThieves$Yard", name := "otherHalf", desc := "(I)I" } : Jvm.MethodName)) ∈ lw_all := lw_mem 560 (by decide +kernel) rfl
theorem q541 : (Jvm.Cond.selects "HayThieves$Yard" ({ cls := "HayThieves$Yard", name := "otherHalf", desc := "(I)I" } : Jvm.MethodName) ({ cls := "HayThieves$Yard", name := "otherHalf", desc := "(I)I" } : Jvm.MethodName)) ∈ lw_all := lw_mem 561 (by decide +kernel) rfl
theorem q542 : (Jvm.Cond.code ({ cls := "HayThieves$Yard", name := "otherHalf", desc := "(I)I" } : Jvm.MethodName) prog_5_method_27_code (2 : Nat) (Option.some Jvm.ClassFile.FieldType.int)) ∈ lw_all := lw_mem 562 (by decide +kernel) rfl
theorem q543 : (Jvm.Cond.methodLink "HayThieves$Yard" (146 : Nat) ({ cls := "HayThieves$Yard", name := "workOnHeap", desc := "(LHayThieves$Lad;)V" } : Jvm.MethodName)) ∈ lw_all := lw_mem 563 (by decide +kernel) rfl
theorem q544 : (Jvm.Cond.instanceMethod ({ cls := "HayThieves$Yard", name := "workOnHeap", desc := "(LHayThieves$Lad;)V" } : Jvm.MethodName)) ∈ lw_all := lw_mem 564 (by decide +kernel) rfl
theorem q545 : (Jvm.Cond.selects "HayThieves$Yard" ({ cls := "HayThieves$Yard", name := "workOnHeap", desc := "(LHayThieves$Lad;)V" } : Jvm.MethodName) ({ cls := "HayThieves$Yard", name := "workOnHeap", desc := "(LHayThieves$Lad;)V" } : Jvm.MethodName)) ∈ lw_all := lw_mem 565 (by decide +kernel) rfl
theorem q546 : (Jvm.Cond.code ({ cls := "HayThieves$Yard", name := "workOnHeap", desc := "(LHayThieves$Lad;)V" } : Jvm.MethodName) prog_5_method_22_code (3 : Nat) (Option.none : Option Jvm.ClassFile.FieldType)) ∈ lw_all := lw_mem 566 (by decide +kernel) rfl
theorem q547 : (Jvm.Cond.methodLink "HayThieves$Yard" (175 : Nat) ({ cls := "HayThieves$Cart", name := "hasRoom", desc := "()Z" } : Jvm.MethodName)) ∈ lw_all := lw_mem 567 (by decide +kernel) rfl
theorem q548 : (Jvm.Cond.instanceMethod ({ cls := "HayThieves$Cart", name := "hasRoom", desc := "()Z" } : Jvm.MethodName)) ∈ lw_all := lw_mem 568 (by decide +kernel) rfl
theorem q549 : (Jvm.Cond.selects "HayThieves$Cart" ({ cls := "HayThieves$Cart", name := "hasRoom", desc := "()Z" } : Jvm.MethodName) ({ cls := "HayThieves$Cart", name := "hasRoom", desc := "()Z" } : Jvm.MethodName)) ∈ lw_all := lw_mem 569 (by decide +kernel) rfl
theorem q550 : (Jvm.Cond.code ({ cls := "HayThieves$Cart", name := "hasRoom", desc := "()Z" } : Jvm.MethodName) prog_2_method_4_code (1 : Nat) (Option.some Jvm.ClassFile.FieldType.boolean)) ∈ lw_all := lw_mem 570 (by decide +kernel) rfl
theorem q551 : (Jvm.Cond.methodLink "HayThieves$Yard" (179 : Nat) ({ cls := "HayThieves$Yard", name := "forkHeap", desc := "(LHayThieves$Lad;)V" } : Jvm.MethodName)) ∈ lw_all := lw_mem 571 (by decide +kernel) rfl
theorem q552 : (Jvm.Cond.instanceMethod ({ cls := "HayThieves$Yard", name := "forkHeap", desc := "(LHayThieves$Lad;)V" } : Jvm.MethodName)) ∈ lw_all := lw_mem 572 (by decide +kernel) rfl
theorem q553 : (Jvm.Cond.selects "HayThieves$Yard" ({ cls := "HayThieves$Yard", name := "forkHeap", desc := "(LHayThieves$Lad;)V" } : Jvm.MethodName) ({ cls := "HayThieves$Yard", name := "forkHeap", desc := "(LHayThieves$Lad;)V" } : Jvm.MethodName)) ∈ lw_all := lw_mem 573 (by decide +kernel) rfl
theorem q554 : (Jvm.Cond.code ({ cls := "HayThieves$Yard", name := "forkHeap", desc := "(LHayThieves$Lad;)V" } : Jvm.MethodName) prog_5_method_23_code (5 : Nat) (Option.none : Option Jvm.ClassFile.FieldType)) ∈ lw_all := lw_mem 574 (by decide +kernel) rfl
theorem q555 : (Jvm.Cond.methodLink "HayThieves$Yard" (192 : Nat) ({ cls := "HayThieves$Cart", name := "putNear", desc := "(I)V" } : Jvm.MethodName)) ∈ lw_all := lw_mem 575 (by decide +kernel) rfl
theorem q556 : (Jvm.Cond.instanceMethod ({ cls := "HayThieves$Cart", name := "putNear", desc := "(I)V" } : Jvm.MethodName)) ∈ lw_all := lw_mem 576 (by decide +kernel) rfl
theorem q557 : (Jvm.Cond.selects "HayThieves$Cart" ({ cls := "HayThieves$Cart", name := "putNear", desc := "(I)V" } : Jvm.MethodName) ({ cls := "HayThieves$Cart", name := "putNear", desc := "(I)V" } : Jvm.MethodName)) ∈ lw_all := lw_mem 577 (by decide +kernel) rfl
theorem q558 : (Jvm.Cond.code ({ cls := "HayThieves$Cart", name := "putNear", desc := "(I)V" } : Jvm.MethodName) prog_2_method_5_code (2 : Nat) (Option.none : Option Jvm.ClassFile.FieldType)) ∈ lw_all := lw_mem 578 (by decide +kernel) rfl
theorem q559 : (Jvm.Cond.methodLink "HayThieves$Cart" (19 : Nat) ({ cls := "HayThieves$Cart", name := "hasRoom", desc := "()Z" } : Jvm.MethodName)) ∈ lw_all := lw_mem 579 (by decide +kernel) rfl
theorem q560 : (Jvm.Cond.methodLink "HayThieves$Yard" (195 : Nat) ({ cls := "HayThieves$Yard", name := "wakeFirstSleeper", desc := "()V" } : Jvm.MethodName)) ∈ lw_all := lw_mem 580 (by decide +kernel) rfl
theorem q561 : (Jvm.Cond.instanceMethod ({ cls := "HayThieves$Yard", name := "wakeFirstSleeper", desc := "()V" } : Jvm.MethodName)) ∈ lw_all := lw_mem 581 (by decide +kernel) rfl
theorem q562 : (Jvm.Cond.selects "HayThieves$Yard" ({ cls := "HayThieves$Yard", name := "wakeFirstSleeper", desc := "()V" } : Jvm.MethodName) ({ cls := "HayThieves$Yard", name := "wakeFirstSleeper", desc := "()V" } : Jvm.MethodName)) ∈ lw_all := lw_mem 582 (by decide +kernel) rfl
theorem q563 : (Jvm.Cond.code ({ cls := "HayThieves$Yard", name := "wakeFirstSleeper", desc := "()V" } : Jvm.MethodName) prog_5_method_24_code (2 : Nat) (Option.none : Option Jvm.ClassFile.FieldType)) ∈ lw_all := lw_mem 583 (by decide +kernel) rfl
theorem q564 : (Jvm.Cond.methodLink "HayThieves$Yard" (182 : Nat) ({ cls := "HayThieves$Yard", name := "pitch", desc := "(LHayThieves$Lad;)V" } : Jvm.MethodName)) ∈ lw_all := lw_mem 584 (by decide +kernel) rfl
theorem q565 : (Jvm.Cond.instanceMethod ({ cls := "HayThieves$Yard", name := "pitch", desc := "(LHayThieves$Lad;)V" } : Jvm.MethodName)) ∈ lw_all := lw_mem 585 (by decide +kernel) rfl
theorem q566 : (Jvm.Cond.selects "HayThieves$Yard" ({ cls := "HayThieves$Yard", name := "pitch", desc := "(LHayThieves$Lad;)V" } : Jvm.MethodName) ({ cls := "HayThieves$Yard", name := "pitch", desc := "(LHayThieves$Lad;)V" } : Jvm.MethodName)) ∈ lw_all := lw_mem 586 (by decide +kernel) rfl
theorem q567 : (Jvm.Cond.code ({ cls := "HayThieves$Yard", name := "pitch", desc := "(LHayThieves$Lad;)V" } : Jvm.MethodName) prog_5_method_25_code (3 : Nat) (Option.none : Option Jvm.ClassFile.FieldType)) ∈ lw_all := lw_mem 587 (by decide +kernel) rfl
theorem q568 : (Jvm.Cond.methodLink "HayThieves$Yard" (149 : Nat) ({ cls := "HayThieves$Yard", name := "takeFromYard", desc := "(LHayThieves$Lad;)Z" } : Jvm.MethodName)) ∈ lw_all := lw_mem 588 (by decide +kernel) rfl
theorem q569 : (Jvm.Cond.instanceMethod ({ cls := "HayThieves$Yard", name := "takeFromYard", desc := "(LHayThieves$Lad;)Z" } : Jvm.MethodName)) ∈ lw_all := lw_mem 589 (by decide +kernel) rfl
theorem q570 : (Jvm.Cond.selects "HayThieves$Yard" ({ cls := "HayThieves$Yard", name := "takeFromYard", desc := "(LHayThieves$Lad;)Z" } : Jvm.MethodName) ({ cls := "HayThieves$Yard", name := "takeFromYard", desc := "(LHayThieves$Lad;)Z" } : Jvm.MethodName)) ∈ lw_all := lw_mem 590 (by decide +kernel) rfl
theorem q571 : (Jvm.Cond.code ({ cls := "HayThieves$Yard", name := "takeFromYard", desc := "(LHayThieves$Lad;)Z" } : Jvm.MethodName) prog_5_method_28_code (3 : Nat) (Option.some Jvm.ClassFile.FieldType.boolean)) ∈ lw_all := lw_mem 591 (by decide +kernel) rfl
theorem q572 : (Jvm.Cond.methodLink "HayThieves$Yard" (153 : Nat) ({ cls := "HayThieves$Yard", name := "steal", desc := "(LHayThieves$Lad;)Z" } : Jvm.MethodName)) ∈ lw_all := lw_mem 592 (by decide +kernel) rfl
theorem q573 : (Jvm.Cond.instanceMethod ({ cls := "HayThieves$Yard", name := "steal", desc := "(LHayThieves$Lad;)Z" } : Jvm.MethodName)) ∈ lw_all := lw_mem 593 (by decide +kernel) rfl
theorem q574 : (Jvm.Cond.selects "HayThieves$Yard" ({ cls := "HayThieves$Yard", name := "steal", desc := "(LHayThieves$Lad;)Z" } : Jvm.MethodName) ({ cls := "HayThieves$Yard", name := "steal", desc := "(LHayThieves$Lad;)Z" } : Jvm.MethodName)) ∈ lw_all := lw_mem 594 (by decide +kernel) rfl
theorem q575 : (Jvm.Cond.code ({ cls := "HayThieves$Yard", name := "steal", desc := "(LHayThieves$Lad;)Z" } : Jvm.MethodName) prog_5_method_29_code (4 : Nat) (Option.some Jvm.ClassFile.FieldType.boolean)) ∈ lw_all := lw_mem 595 (by decide +kernel) rfl
theorem q576 : (Jvm.Cond.methodLink "HayThieves$Yard" (207 : Nat) ({ cls := "HayThieves$Yard", name := "victimOf", desc := "(LHayThieves$Lad;)I" } : Jvm.MethodName)) ∈ lw_all := lw_mem 596 (by decide +kernel) rfl
theorem q577 : (Jvm.Cond.methodLink "HayThieves$Yard" (210 : Nat) ({ cls := "HayThieves$Cart", name := "takeFar", desc := "()I" } : Jvm.MethodName)) ∈ lw_all := lw_mem 597 (by decide +kernel) rfl
theorem q578 : (Jvm.Cond.instanceMethod ({ cls := "HayThieves$Cart", name := "takeFar", desc := "()I" } : Jvm.MethodName)) ∈ lw_all := lw_mem 598 (by decide +kernel) rfl
theorem q579 : (Jvm.Cond.selects "HayThieves$Cart" ({ cls := "HayThieves$Cart", name := "takeFar", desc := "()I" } : Jvm.MethodName) ({ cls := "HayThieves$Cart", name := "takeFar", desc := "()I" } : Jvm.MethodName)) ∈ lw_all := lw_mem 599 (by decide +kernel) rfl
theorem q580 : (Jvm.Cond.code ({ cls := "HayThieves$Cart", name := "takeFar", desc := "()I" } : Jvm.MethodName) prog_2_method_7_code (2 : Nat) (Option.some Jvm.ClassFile.FieldType.int)) ∈ lw_all := lw_mem 600 (by decide +kernel) rfl
theorem q581 : (Jvm.Cond.methodLink "HayThieves$Cart" (27 : Nat) ({ cls := "HayThieves$Cart", name := "farHeap", desc := "()I" } : Jvm.MethodName)) ∈ lw_all := lw_mem 601 (by decide +kernel) rfl
theorem q582 : (Jvm.Cond.methodLink "HayThieves$Cart" (31 : Nat) ({ cls := "java/lang/System", name := "arraycopy", desc := "(Ljava/lang/Object;ILjava/lang/Object;II)V" } : Jvm.MethodName)) ∈ lw_all := lw_mem 602 (by decide +kernel) rfl
theorem q583 : (Jvm.Cond.static ({ cls := "java/lang/System", name := "arraycopy", desc := "(Ljava/lang/Object;ILjava/lang/Object;II)V" } : Jvm.MethodName)) ∈ lw_all := lw_mem 603 (by decide +kernel) rfl
theorem q584 : (Jvm.Cond.native ({ cls := "java/lang/System", name := "arraycopy", desc := "(Ljava/lang/Object;ILjava/lang/Object;II)V" } : Jvm.MethodName)) ∈ lw_all := lw_mem 604 (by decide +kernel) rfl
theorem q585 : (Jvm.Cond.methodLink "HayThieves$Yard" (159 : Nat) ({ cls := "HayThieves$Lad", name := "beIdle", desc := "()V" } : Jvm.MethodName)) ∈ lw_all := lw_mem 605 (by decide +kernel) rfl
theorem q586 : (Jvm.Cond.instanceMethod ({ cls := "HayThieves$Lad", name := "beIdle", desc := "()V" } : Jvm.MethodName)) ∈ lw_all := lw_mem 606 (by decide +kernel) rfl
theorem q587 : (Jvm.Cond.selects "HayThieves$Lad" ({ cls := "HayThieves$Lad", name := "beIdle", desc := "()V" } : Jvm.MethodName) ({ cls := "HayThieves$Lad", name := "beIdle", desc := "()V" } : Jvm.MethodName)) ∈ lw_all := lw_mem 607 (by decide +kernel) rfl
theorem q588 : (Jvm.Cond.code ({ cls := "HayThieves$Lad", name := "beIdle", desc := "()V" } : Jvm.MethodName) prog_3_method_6_code (1 : Nat) (Option.none : Option Jvm.ClassFile.FieldType)) ∈ lw_all := lw_mem 608 (by decide +kernel) rfl
theorem q589 : (Jvm.Cond.methodLink "HayThievesLaw" (114 : Nat) ({ cls := "HayThievesLaw", name := "until", desc := "(LHayThieves;I[J)I" } : Jvm.MethodName)) ∈ lw_all := lw_mem 609 (by decide +kernel) rfl
theorem q590 : (Jvm.Cond.static ({ cls := "HayThievesLaw", name := "until", desc := "(LHayThieves;I[J)I" } : Jvm.MethodName)) ∈ lw_all := lw_mem 610 (by decide +kernel) rfl
theorem q591 : (Jvm.Cond.codeWith ({ cls := "HayThievesLaw", name := "until", desc := "(LHayThieves;I[J)I" } : Jvm.MethodName) method_15_code (4 : Nat) (Option.some Jvm.ClassFile.FieldType.int) [((0 : Nat), (9 : Nat), (12 : Nat), (21 : Nat))]) ∈ lw_all := lw_mem 611 (by decide +kernel) rfl
theorem q592 : (Jvm.Cond.methodLink "HayThievesLaw" (53 : Nat) ({ cls := "HayThieves", name := "until", desc := "(I)I" } : Jvm.MethodName)) ∈ lw_all := lw_mem 612 (by decide +kernel) rfl
theorem q593 : (Jvm.Cond.instanceMethod ({ cls := "HayThieves", name := "until", desc := "(I)I" } : Jvm.MethodName)) ∈ lw_all := lw_mem 613 (by decide +kernel) rfl
theorem q594 : (Jvm.Cond.selects "HayThieves" ({ cls := "HayThieves", name := "until", desc := "(I)I" } : Jvm.MethodName) ({ cls := "HayThieves", name := "until", desc := "(I)I" } : Jvm.MethodName)) ∈ lw_all := lw_mem 614 (by decide +kernel) rfl
theorem q595 : (Jvm.Cond.code ({ cls := "HayThieves", name := "until", desc := "(I)I" } : Jvm.MethodName) prog_1_method_15_code (4 : Nat) (Option.some Jvm.ClassFile.FieldType.int)) ∈ lw_all := lw_mem 615 (by decide +kernel) rfl
theorem q596 : (Jvm.Cond.methodLink "HayThieves" (135 : Nat) ({ cls := "HayThieves$Yard", name := "copyFrom", desc := "(LHayThieves$Yard;)V" } : Jvm.MethodName)) ∈ lw_all := lw_mem 616 (by decide +kernel) rfl
theorem q597 : (Jvm.Cond.instanceMethod ({ cls := "HayThieves$Yard", name := "copyFrom", desc := "(LHayThieves$Yard;)V" } : Jvm.MethodName)) ∈ lw_all := lw_mem 617 (by decide +kernel) rfl
theorem q598 : (Jvm.Cond.selects "HayThieves$Yard" ({ cls := "HayThieves$Yard", name := "copyFrom", desc := "(LHayThieves$Yard;)V" } : Jvm.MethodName) ({ cls := "HayThieves$Yard", name := "copyFrom", desc := "(LHayThieves$Yard;)V" } : Jvm.MethodName)) ∈ lw_all := lw_mem 618 (by decide +kernel) rfl
theorem q599 : (Jvm.Cond.code ({ cls := "HayThieves$Yard", name := "copyFrom", desc := "(LHayThieves$Yard;)V" } : Jvm.MethodName) prog_5_method_30_code (3 : Nat) (Option.none : Option Jvm.ClassFile.FieldType)) ∈ lw_all := lw_mem 619 (by decide +kernel) rfl
theorem q600 : (Jvm.Cond.methodLink "HayThieves$Yard" (220 : Nat) ({ cls := "HayThieves$Lad", name := "copyFrom", desc := "(LHayThieves$Lad;)V" } : Jvm.MethodName)) ∈ lw_all := lw_mem 620 (by decide +kernel) rfl
theorem q601 : (Jvm.Cond.instanceMethod ({ cls := "HayThieves$Lad", name := "copyFrom", desc := "(LHayThieves$Lad;)V" } : Jvm.MethodName)) ∈ lw_all := lw_mem 621 (by decide +kernel) rfl
theorem q602 : (Jvm.Cond.selects "HayThieves$Lad" ({ cls := "HayThieves$Lad", name := "copyFrom", desc := "(LHayThieves$Lad;)V" } : Jvm.MethodName) ({ cls := "HayThieves$Lad", name := "copyFrom", desc := "(LHayThieves$Lad;)V" } : Jvm.MethodName)) ∈ lw_all := lw_mem 622 (by decide +kernel) rfl
theorem q603 : (Jvm.Cond.code ({ cls := "HayThieves$Lad", name := "copyFrom", desc := "(LHayThieves$Lad;)V" } : Jvm.MethodName) prog_3_method_7_code (2 : Nat) (Option.none : Option Jvm.ClassFile.FieldType)) ∈ lw_all := lw_mem 623 (by decide +kernel) rfl
theorem q604 : (Jvm.Cond.methodLink "HayThieves$Lad" (63 : Nat) ({ cls := "HayThieves$Cart", name := "copyFrom", desc := "(LHayThieves$Cart;)V" } : Jvm.MethodName)) ∈ lw_all := lw_mem 624 (by decide +kernel) rfl
theorem q605 : (Jvm.Cond.instanceMethod ({ cls := "HayThieves$Cart", name := "copyFrom", desc := "(LHayThieves$Cart;)V" } : Jvm.MethodName)) ∈ lw_all := lw_mem 625 (by decide +kernel) rfl
theorem q606 : (Jvm.Cond.selects "HayThieves$Cart" ({ cls := "HayThieves$Cart", name := "copyFrom", desc := "(LHayThieves$Cart;)V" } : Jvm.MethodName) ({ cls := "HayThieves$Cart", name := "copyFrom", desc := "(LHayThieves$Cart;)V" } : Jvm.MethodName)) ∈ lw_all := lw_mem 626 (by decide +kernel) rfl
theorem q607 : (Jvm.Cond.code ({ cls := "HayThieves$Cart", name := "copyFrom", desc := "(LHayThieves$Cart;)V" } : Jvm.MethodName) prog_2_method_8_code (2 : Nat) (Option.none : Option Jvm.ClassFile.FieldType)) ∈ lw_all := lw_mem 627 (by decide +kernel) rfl
theorem q608 : (Jvm.Cond.methodLink "HayThieves$Yard" (223 : Nat) ({ cls := "HayThieves$Load", name := "copyFrom", desc := "(LHayThieves$Load;)V" } : Jvm.MethodName)) ∈ lw_all := lw_mem 628 (by decide +kernel) rfl
theorem q609 : (Jvm.Cond.instanceMethod ({ cls := "HayThieves$Load", name := "copyFrom", desc := "(LHayThieves$Load;)V" } : Jvm.MethodName)) ∈ lw_all := lw_mem 629 (by decide +kernel) rfl
theorem q610 : (Jvm.Cond.selects "HayThieves$Load" ({ cls := "HayThieves$Load", name := "copyFrom", desc := "(LHayThieves$Load;)V" } : Jvm.MethodName) ({ cls := "HayThieves$Load", name := "copyFrom", desc := "(LHayThieves$Load;)V" } : Jvm.MethodName)) ∈ lw_all := lw_mem 630 (by decide +kernel) rfl
theorem q611 : (Jvm.Cond.code ({ cls := "HayThieves$Load", name := "copyFrom", desc := "(LHayThieves$Load;)V" } : Jvm.MethodName) prog_4_method_3_code (2 : Nat) (Option.none : Option Jvm.ClassFile.FieldType)) ∈ lw_all := lw_mem 631 (by decide +kernel) rfl
theorem q612 : (Jvm.Cond.methodLink "HayThieves$Yard" (226 : Nat) ({ cls := "java/lang/System", name := "arraycopy", desc := "(Ljava/lang/Object;ILjava/lang/Object;II)V" } : Jvm.MethodName)) ∈ lw_all := lw_mem 632 (by decide +kernel) rfl
theorem q613 : (Jvm.Cond.methodLink "HayThievesLaw" (117 : Nat) ({ cls := "HayThievesLaw", name := "foresee", desc := "(LHayThieves;II[J)I" } : Jvm.MethodName)) ∈ lw_all := lw_mem 633 (by decide +kernel) rfl
theorem q614 : (Jvm.Cond.static ({ cls := "HayThievesLaw", name := "foresee", desc := "(LHayThieves;II[J)I" } : Jvm.MethodName)) ∈ lw_all := lw_mem 634 (by decide +kernel) rfl
theorem q615 : (Jvm.Cond.codeWith ({ cls := "HayThievesLaw", name := "foresee", desc := "(LHayThieves;II[J)I" } : Jvm.MethodName) method_16_code (5 : Nat) (Option.some Jvm.ClassFile.FieldType.int) [((0 : Nat), (10 : Nat), (13 : Nat), (13 : Nat)), ((0 : Nat), (10 : Nat), (17 : Nat), (21 : Nat))]) ∈ lw_all := lw_mem 635 (by decide +kernel) rfl
theorem q616 : (Jvm.Cond.methodLink "HayThievesLaw" (56 : Nat) ({ cls := "HayThieves", name := "foresee", desc := "(II)I" } : Jvm.MethodName)) ∈ lw_all := lw_mem 636 (by decide +kernel) rfl
theorem q617 : (Jvm.Cond.instanceMethod ({ cls := "HayThieves", name := "foresee", desc := "(II)I" } : Jvm.MethodName)) ∈ lw_all := lw_mem 637 (by decide +kernel) rfl
theorem q618 : (Jvm.Cond.selects "HayThieves" ({ cls := "HayThieves", name := "foresee", desc := "(II)I" } : Jvm.MethodName) ({ cls := "HayThieves", name := "foresee", desc := "(II)I" } : Jvm.MethodName)) ∈ lw_all := lw_mem 638 (by decide +kernel) rfl
theorem q619 : (Jvm.Cond.code ({ cls := "HayThieves", name := "foresee", desc := "(II)I" } : Jvm.MethodName) prog_1_method_16_code (3 : Nat) (Option.some Jvm.ClassFile.FieldType.int)) ∈ lw_all := lw_mem 639 (by decide +kernel) rfl
theorem q621 : (Jvm.Cond.methodLink "HayThievesLaw" (120 : Nat) ({ cls := "HayThievesLaw", name := "advise", desc := "(LHayThieves;I[J)I" } : Jvm.MethodName)) ∈ lw_all := lw_mem 641 (by decide +kernel) rfl
theorem q622 : (Jvm.Cond.static ({ cls := "HayThievesLaw", name := "advise", desc := "(LHayThieves;I[J)I" } : Jvm.MethodName)) ∈ lw_all := lw_mem 642 (by decide +kernel) rfl
theorem q623 : (Jvm.Cond.codeWith ({ cls := "HayThievesLaw", name := "advise", desc := "(LHayThieves;I[J)I" } : Jvm.MethodName) method_17_code (4 : Nat) (Option.some Jvm.ClassFile.FieldType.int) [((0 : Nat), (9 : Nat), (12 : Nat), (13 : Nat))]) ∈ lw_all := lw_mem 643 (by decide +kernel) rfl
theorem q624 : (Jvm.Cond.methodLink "HayThievesLaw" (59 : Nat) ({ cls := "HayThieves", name := "advise", desc := "(I)I" } : Jvm.MethodName)) ∈ lw_all := lw_mem 644 (by decide +kernel) rfl
theorem q625 : (Jvm.Cond.instanceMethod ({ cls := "HayThieves", name := "advise", desc := "(I)I" } : Jvm.MethodName)) ∈ lw_all := lw_mem 645 (by decide +kernel) rfl
theorem q626 : (Jvm.Cond.selects "HayThieves" ({ cls := "HayThieves", name := "advise", desc := "(I)I" } : Jvm.MethodName) ({ cls := "HayThieves", name := "advise", desc := "(I)I" } : Jvm.MethodName)) ∈ lw_all := lw_mem 646 (by decide +kernel) rfl
theorem q627 : (Jvm.Cond.code ({ cls := "HayThieves", name := "advise", desc := "(I)I" } : Jvm.MethodName) prog_1_method_17_code (9 : Nat) (Option.some Jvm.ClassFile.FieldType.int)) ∈ lw_all := lw_mem 647 (by decide +kernel) rfl
theorem q628 : (Jvm.Cond.fieldLink "HayThieves" (144 : Nat) "HayThieves" "ADVISED_FORKS" "[I") ∈ lw_all := lw_mem 648 (by decide +kernel) rfl
theorem q630 : (Jvm.Cond.classLink "HayThievesLaw" (63 : Nat) "HayThievesModel") ∈ lw_all := lw_mem 650 (by decide +kernel) rfl
theorem q631 : (Jvm.Cond.instantiable "HayThievesModel" (10 : Nat)) ∈ lw_all := lw_mem 651 (by decide +kernel) rfl
theorem q632 : (Jvm.Cond.methodLink "HayThievesLaw" (65 : Nat) ({ cls := "HayThievesModel", name := "<init>", desc := "()V" } : Jvm.MethodName)) ∈ lw_all := lw_mem 652 (by decide +kernel) rfl
theorem q633 : (Jvm.Cond.instanceMethod ({ cls := "HayThievesModel", name := "<init>", desc := "()V" } : Jvm.MethodName)) ∈ lw_all := lw_mem 653 (by decide +kernel) rfl
theorem q634 : (Jvm.Cond.code ({ cls := "HayThievesModel", name := "<init>", desc := "()V" } : Jvm.MethodName) prog_7_method_1_code (1 : Nat) (Option.none : Option Jvm.ClassFile.FieldType)) ∈ lw_all := lw_mem 654 (by decide +kernel) rfl
theorem q635 : (Jvm.Cond.methodLink "HayThievesModel" (1 : Nat) ({ cls := "java/lang/Object", name := "<init>", desc := "()V" } : Jvm.MethodName)) ∈ lw_all := lw_mem 655 (by decide +kernel) rfl
theorem q636 : (Jvm.Cond.classLink "HayThievesModel" (26 : Nat) "HayThievesModel$State") ∈ lw_all := lw_mem 656 (by decide +kernel) rfl
theorem q637 : (Jvm.Cond.instantiable "HayThievesModel$State" (26 : Nat)) ∈ lw_all := lw_mem 657 (by decide +kernel) rfl
theorem q639 : (Jvm.Cond.instanceMethod ({ cls := "HayThievesModel$State", name := "<init>", desc := "()V" } : Jvm.MethodName)) ∈ lw_all := lw_mem 659 (by decide +kernel) rfl
theorem q640 : (Jvm.Cond.code ({ cls := "HayThievesModel$State", name := "<init>", desc := "()V" } : Jvm.MethodName) prog_8_method_1_code (1 : Nat) (Option.none : Option Jvm.ClassFile.FieldType)) ∈ lw_all := lw_mem 660 (by decide +kernel) rfl
theorem q641 : (Jvm.Cond.methodLink "HayThievesModel$State" (3 : Nat) ({ cls := "java/lang/Object", name := "<init>", desc := "()V" } : Jvm.MethodName)) ∈ lw_all := lw_mem 661 (by decide +kernel) rfl
theorem q642 : (Jvm.Cond.fieldLink "HayThievesModel$State" (78 : Nat) "HayThievesModel$State" "minute" "I") ∈ lw_all := lw_mem 662 (by decide +kernel) rfl
theorem q644 : (Jvm.Cond.fieldLink "HayThievesModel$State" (82 : Nat) "HayThievesModel$State" "thefts" "I") ∈ lw_all := lw_mem 664 (by decide +kernel) rfl
theorem q646 : (Jvm.Cond.fieldLink "HayThievesModel$State" (85 : Nat) "HayThievesModel$State" "forkings" "I") ∈ lw_all := lw_mem 666 (by decide +kernel) rfl
theorem q648 : (Jvm.Cond.fieldLink "HayThievesModel$State" (88 : Nat) "HayThievesModel$State" "joinings" "I") ∈ lw_all := lw_mem 668 (by decide +kernel) rfl
theorem q650 : (Jvm.Cond.fieldLink "HayThievesModel$State" (91 : Nat) "HayThievesModel$State" "pitched" "I") ∈ lw_all := lw_mem 670 (by decide +kernel) rfl
theorem q652 : (Jvm.Cond.fieldLink "HayThievesModel$State" (9 : Nat) "HayThievesModel$State" "does" "[I") ∈ lw_all := lw_mem 672 (by decide +kernel) rfl
theorem q654 : (Jvm.Cond.fieldLink "HayThievesModel$State" (15 : Nat) "HayThievesModel$State" "held" "[I") ∈ lw_all := lw_mem 674 (by decide +kernel) rfl
theorem q656 : (Jvm.Cond.fieldLink "HayThievesModel$State" (18 : Nat) "HayThievesModel$State" "row" "[I") ∈ lw_all := lw_mem 676 (by decide +kernel) rfl
theorem q658 : (Jvm.Cond.fieldLink "HayThievesModel$State" (21 : Nat) "HayThievesModel$State" "stole" "[I") ∈ lw_all := lw_mem 678 (by decide +kernel) rfl
theorem q660 : (Jvm.Cond.fieldLink "HayThievesModel$State" (24 : Nat) "HayThievesModel$State" "lost" "[I") ∈ lw_all := lw_mem 680 (by decide +kernel) rfl
theorem q662 : (Jvm.Cond.fieldLink "HayThievesModel$State" (27 : Nat) "HayThievesModel$State" "idle" "[I") ∈ lw_all := lw_mem 682 (by decide +kernel) rfl
theorem q664 : (Jvm.Cond.fieldLink "HayThievesModel$State" (30 : Nat) "HayThievesModel$State" "many" "[I") ∈ lw_all := lw_mem 684 (by decide +kernel) rfl
theorem q666 : (Jvm.Cond.fieldLink "HayThievesModel$State" (33 : Nat) "HayThievesModel$State" "carts" "[I") ∈ lw_all := lw_mem 686 (by decide +kernel) rfl
theorem q668 : (Jvm.Cond.fieldLink "HayThievesModel$State" (36 : Nat) "HayThievesModel$State" "stands" "[I") ∈ lw_all := lw_mem 688 (by decide +kernel) rfl
theorem q670 : (Jvm.Cond.fieldLink "HayThievesModel$State" (39 : Nat) "HayThievesModel$State" "heap" "[I") ∈ lw_all := lw_mem 690 (by decide +kernel) rfl
theorem q672 : (Jvm.Cond.fieldLink "HayThievesModel$State" (42 : Nat) "HayThievesModel$State" "doneAt" "[I") ∈ lw_all := lw_mem 692 (by decide +kernel) rfl
theorem q674 : (Jvm.Cond.fieldLink "HayThievesModel$State" (45 : Nat) "HayThievesModel$State" "made" "[I") ∈ lw_all := lw_mem 694 (by decide +kernel) rfl
theorem q676 : (Jvm.Cond.fieldLink "HayThievesModel$State" (48 : Nat) "HayThievesModel$State" "stolen" "[I") ∈ lw_all := lw_mem 696 (by decide +kernel) rfl
theorem q678 : (Jvm.Cond.fieldLink "HayThievesModel$State" (51 : Nat) "HayThievesModel$State" "out" "[I") ∈ lw_all := lw_mem 698 (by decide +kernel) rfl
theorem q680 : (Jvm.Cond.fieldLink "HayThievesModel$State" (94 : Nat) "HayThievesModel$State" "heaps" "I") ∈ lw_all := lw_mem 700 (by decide +kernel) rfl
theorem q681 : (Jvm.Cond.fieldLink "HayThievesModel$State" (54 : Nat) "HayThievesModel$State" "bales" "[I") ∈ lw_all := lw_mem 701 (by decide +kernel) rfl
theorem q683 : (Jvm.Cond.fieldLink "HayThievesModel$State" (57 : Nat) "HayThievesModel$State" "left" "[I") ∈ lw_all := lw_mem 703 (by decide +kernel) rfl
theorem q685 : (Jvm.Cond.fieldLink "HayThievesModel$State" (60 : Nat) "HayThievesModel$State" "of" "[I") ∈ lw_all := lw_mem 705 (by decide +kernel) rfl
theorem q687 : (Jvm.Cond.fieldLink "HayThievesModel$State" (63 : Nat) "HayThievesModel$State" "whole" "[I") ∈ lw_all := lw_mem 707 (by decide +kernel) rfl
theorem q688 : (Jvm.Cond.fieldLink "HayThievesModel$State" (66 : Nat) "HayThievesModel$State" "mate" "[I") ∈ lw_all := lw_mem 708 (by decide +kernel) rfl
theorem q689 : (Jvm.Cond.fieldLink "HayThievesModel$State" (69 : Nat) "HayThievesModel$State" "done" "[I") ∈ lw_all := lw_mem 709 (by decide +kernel) rfl
theorem q743 : (Jvm.Cond.fieldLink "HayThievesModel" (36 : Nat) "HayThievesModel" "thrown" "I") ∈ lw_all := lw_mem 763 (by decide +kernel) rfl
theorem q744 : (Jvm.Cond.fieldLink "HayThievesModel" (39 : Nat) "HayThievesModel" "lads" "I") ∈ lw_all := lw_mem 764 (by decide +kernel) rfl
theorem q745 : (Jvm.Cond.fieldLink "HayThievesModel" (9 : Nat) "HayThievesModel" "strength" "[I") ∈ lw_all := lw_mem 765 (by decide +kernel) rfl
theorem q746 : (Jvm.Cond.fieldLink "HayThievesModel" (13 : Nat) "HayThievesModel" "way" "[I") ∈ lw_all := lw_mem 766 (by decide +kernel) rfl
theorem q747 : (Jvm.Cond.fieldLink "HayThievesModel" (46 : Nat) "HayThievesModel" "loads" "I") ∈ lw_all := lw_mem 767 (by decide +kernel) rfl
theorem q748 : (Jvm.Cond.fieldLink "HayThievesModel" (16 : Nat) "HayThievesModel" "size" "[I") ∈ lw_all := lw_mem 768 (by decide +kernel) rfl
theorem q749 : (Jvm.Cond.fieldLink "HayThievesModel" (19 : Nat) "HayThievesModel" "came" "[I") ∈ lw_all := lw_mem 769 (by decide +kernel) rfl
theorem q750 : (Jvm.Cond.fieldLink "HayThievesModel" (22 : Nat) "HayThievesModel" "fork" "I") ∈ lw_all := lw_mem 770 (by decide +kernel) rfl
theorem q751 : (Jvm.Cond.fieldLink "HayThievesModel" (29 : Nat) "HayThievesModel" "s" "LHayThievesModel$State;") ∈ lw_all := lw_mem 771 (by decide +kernel) rfl
theorem q752 : (Jvm.Cond.fieldLink "HayThievesModel" (33 : Nat) "HayThievesModel" "ahead" "LHayThievesModel$State;") ∈ lw_all := lw_mem 772 (by decide +kernel) rfl
theorem q774 : (Jvm.Cond.methodLink "HayThievesLaw" (72 : Nat) ({ cls := "HayThievesModel", name := "thrown", desc := "()I" } : Jvm.MethodName)) ∈ lw_all := lw_mem 794 (by decide +kernel) rfl
theorem q775 : (Jvm.Cond.instanceMethod ({ cls := "HayThievesModel", name := "thrown", desc := "()I" } : Jvm.MethodName)) ∈ lw_all := lw_mem 795 (by decide +kernel) rfl
theorem q776 : (Jvm.Cond.selects "HayThievesModel" ({ cls := "HayThievesModel", name := "thrown", desc := "()I" } : Jvm.MethodName) ({ cls := "HayThievesModel", name := "thrown", desc := "()I" } : Jvm.MethodName)) ∈ lw_all := lw_mem 796 (by decide +kernel) rfl
theorem q777 : (Jvm.Cond.code ({ cls := "HayThievesModel", name := "thrown", desc := "()I" } : Jvm.MethodName) prog_7_method_2_code (1 : Nat) (Option.some Jvm.ClassFile.FieldType.int)) ∈ lw_all := lw_mem 797 (by decide +kernel) rfl
theorem q778 : (Jvm.Cond.methodLink "HayThievesLaw" (71 : Nat) ({ cls := "HayThievesModel", name := "come", desc := "(I)I" } : Jvm.MethodName)) ∈ lw_all := lw_mem 798 (by decide +kernel) rfl
theorem q779 : (Jvm.Cond.instanceMethod ({ cls := "HayThievesModel", name := "come", desc := "(I)I" } : Jvm.MethodName)) ∈ lw_all := lw_mem 799 (by decide +kernel) rfl
theorem q780 : (Jvm.Cond.selects "HayThievesModel" ({ cls := "HayThievesModel", name := "come", desc := "(I)I" } : Jvm.MethodName) ({ cls := "HayThievesModel", name := "come", desc := "(I)I" } : Jvm.MethodName)) ∈ lw_all := lw_mem 800 (by decide +kernel) rfl
theorem q781 : (Jvm.Cond.code ({ cls := "HayThievesModel", name := "come", desc := "(I)I" } : Jvm.MethodName) prog_7_method_13_code (2 : Nat) (Option.some Jvm.ClassFile.FieldType.int)) ∈ lw_all := lw_mem 801 (by decide +kernel) rfl
theorem q782 : (Jvm.Cond.methodLink "HayThievesModel" (42 : Nat) ({ cls := "HayThievesModel", name := "isIn", desc := "(III)Z" } : Jvm.MethodName)) ∈ lw_all := lw_mem 802 (by decide +kernel) rfl
theorem q783 : (Jvm.Cond.static ({ cls := "HayThievesModel", name := "isIn", desc := "(III)Z" } : Jvm.MethodName)) ∈ lw_all := lw_mem 803 (by decide +kernel) rfl
theorem q784 : (Jvm.Cond.code ({ cls := "HayThievesModel", name := "isIn", desc := "(III)Z" } : Jvm.MethodName) prog_7_method_4_code (3 : Nat) (Option.some Jvm.ClassFile.FieldType.boolean)) ∈ lw_all := lw_mem 804 (by decide +kernel) rfl
theorem q785 : (Jvm.Cond.methodLink "HayThievesModel" (127 : Nat) ({ cls := "HayThievesModel", name := "no", desc := "(I)I" } : Jvm.MethodName)) ∈ lw_all := lw_mem 805 (by decide +kernel) rfl
theorem q787 : (Jvm.Cond.instanceMethod ({ cls := "HayThievesModel", name := "no", desc := "(I)I" } : Jvm.MethodName)) ∈ lw_all := lw_mem 807 (by decide +kernel) rfl
theorem q788 : (Jvm.Cond.code ({ cls := "HayThievesModel", name := "no", desc := "(I)I" } : Jvm.MethodName) prog_7_method_3_code (2 : Nat) (Option.some Jvm.ClassFile.FieldType.int)) ∈ lw_all := lw_mem 808 (by decide +kernel) rfl
theorem q789 : (Jvm.Cond.methodLink "HayThievesLaw" (79 : Nat) ({ cls := "HayThievesModel", name := "setWay", desc := "(II)I" } : Jvm.MethodName)) ∈ lw_all := lw_mem 809 (by decide +kernel) rfl
theorem q790 : (Jvm.Cond.instanceMethod ({ cls := "HayThievesModel", name := "setWay", desc := "(II)I" } : Jvm.MethodName)) ∈ lw_all := lw_mem 810 (by decide +kernel) rfl
theorem q791 : (Jvm.Cond.selects "HayThievesModel" ({ cls := "HayThievesModel", name := "setWay", desc := "(II)I" } : Jvm.MethodName) ({ cls := "HayThievesModel", name := "setWay", desc := "(II)I" } : Jvm.MethodName)) ∈ lw_all := lw_mem 811 (by decide +kernel) rfl
theorem q792 : (Jvm.Cond.code ({ cls := "HayThievesModel", name := "setWay", desc := "(II)I" } : Jvm.MethodName) prog_7_method_14_code (4 : Nat) (Option.some Jvm.ClassFile.FieldType.int)) ∈ lw_all := lw_mem 812 (by decide +kernel) rfl
theorem q793 : (Jvm.Cond.methodLink "HayThievesModel" (130 : Nat) ({ cls := "HayThievesModel", name := "isLad", desc := "(I)Z" } : Jvm.MethodName)) ∈ lw_all := lw_mem 813 (by decide +kernel) rfl
theorem q795 : (Jvm.Cond.instanceMethod ({ cls := "HayThievesModel", name := "isLad", desc := "(I)Z" } : Jvm.MethodName)) ∈ lw_all := lw_mem 815 (by decide +kernel) rfl
theorem q796 : (Jvm.Cond.code ({ cls := "HayThievesModel", name := "isLad", desc := "(I)Z" } : Jvm.MethodName) prog_7_method_5_code (2 : Nat) (Option.some Jvm.ClassFile.FieldType.boolean)) ∈ lw_all := lw_mem 816 (by decide +kernel) rfl
theorem q797 : (Jvm.Cond.methodLink "HayThievesLaw" (82 : Nat) ({ cls := "HayThievesModel", name := "setFork", desc := "(I)I" } : Jvm.MethodName)) ∈ lw_all := lw_mem 817 (by decide +kernel) rfl
theorem q798 : (Jvm.Cond.instanceMethod ({ cls := "HayThievesModel", name := "setFork", desc := "(I)I" } : Jvm.MethodName)) ∈ lw_all := lw_mem 818 (by decide +kernel) rfl
theorem q799 : (Jvm.Cond.selects "HayThievesModel" ({ cls := "HayThievesModel", name := "setFork", desc := "(I)I" } : Jvm.MethodName) ({ cls := "HayThievesModel", name := "setFork", desc := "(I)I" } : Jvm.MethodName)) ∈ lw_all := lw_mem 819 (by decide +kernel) rfl
theorem q800 : (Jvm.Cond.code ({ cls := "HayThievesModel", name := "setFork", desc := "(I)I" } : Jvm.MethodName) prog_7_method_15_code (3 : Nat) (Option.some Jvm.ClassFile.FieldType.int)) ∈ lw_all := lw_mem 820 (by decide +kernel) rfl
theorem q801 : (Jvm.Cond.methodLink "HayThievesLaw" (85 : Nat) ({ cls := "HayThievesModel", name := "bring", desc := "(I)I" } : Jvm.MethodName)) ∈ lw_all := lw_mem 821 (by decide +kernel) rfl
theorem q802 : (Jvm.Cond.instanceMethod ({ cls := "HayThievesModel", name := "bring", desc := "(I)I" } : Jvm.MethodName)) ∈ lw_all := lw_mem 822 (by decide +kernel) rfl
theorem q803 : (Jvm.Cond.selects "HayThievesModel" ({ cls := "HayThievesModel", name := "bring", desc := "(I)I" } : Jvm.MethodName) ({ cls := "HayThievesModel", name := "bring", desc := "(I)I" } : Jvm.MethodName)) ∈ lw_all := lw_mem 823 (by decide +kernel) rfl
theorem q804 : (Jvm.Cond.code ({ cls := "HayThievesModel", name := "bring", desc := "(I)I" } : Jvm.MethodName) prog_7_method_16_code (3 : Nat) (Option.some Jvm.ClassFile.FieldType.int)) ∈ lw_all := lw_mem 824 (by decide +kernel) rfl
theorem q805 : (Jvm.Cond.methodLink "HayThievesModel" (140 : Nat) ({ cls := "HayThievesModel$State", name := "add", desc := "(III)I" } : Jvm.MethodName)) ∈ lw_all := lw_mem 825 (by decide +kernel) rfl
theorem q806 : (Jvm.Cond.instanceMethod ({ cls := "HayThievesModel$State", name := "add", desc := "(III)I" } : Jvm.MethodName)) ∈ lw_all := lw_mem 826 (by decide +kernel) rfl
theorem q807 : (Jvm.Cond.selects "HayThievesModel$State" ({ cls := "HayThievesModel$State", name := "add", desc := "(III)I" } : Jvm.MethodName) ({ cls := "HayThievesModel$State", name := "add", desc := "(III)I" } : Jvm.MethodName)) ∈ lw_all := lw_mem 827 (by decide +kernel) rfl
theorem q808 : (Jvm.Cond.code ({ cls := "HayThievesModel$State", name := "add", desc := "(III)I" } : Jvm.MethodName) prog_8_method_4_code (4 : Nat) (Option.some Jvm.ClassFile.FieldType.int)) ∈ lw_all := lw_mem 828 (by decide +kernel) rfl
theorem q809 : (Jvm.Cond.methodLink "HayThievesLaw" (88 : Nat) ({ cls := "HayThievesModel", name := "swap", desc := "(II)I" } : Jvm.MethodName)) ∈ lw_all := lw_mem 829 (by decide +kernel) rfl
theorem q810 : (Jvm.Cond.instanceMethod ({ cls := "HayThievesModel", name := "swap", desc := "(II)I" } : Jvm.MethodName)) ∈ lw_all := lw_mem 830 (by decide +kernel) rfl
theorem q811 : (Jvm.Cond.selects "HayThievesModel" ({ cls := "HayThievesModel", name := "swap", desc := "(II)I" } : Jvm.MethodName) ({ cls := "HayThievesModel", name := "swap", desc := "(II)I" } : Jvm.MethodName)) ∈ lw_all := lw_mem 831 (by decide +kernel) rfl
theorem q812 : (Jvm.Cond.code ({ cls := "HayThievesModel", name := "swap", desc := "(II)I" } : Jvm.MethodName) prog_7_method_17_code (5 : Nat) (Option.some Jvm.ClassFile.FieldType.int)) ∈ lw_all := lw_mem 832 (by decide +kernel) rfl
theorem q813 : (Jvm.Cond.methodLink "HayThievesLaw" (91 : Nat) ({ cls := "HayThievesModel", name := "wake", desc := "(I)I" } : Jvm.MethodName)) ∈ lw_all := lw_mem 833 (by decide +kernel) rfl
theorem q814 : (Jvm.Cond.instanceMethod ({ cls := "HayThievesModel", name := "wake", desc := "(I)I" } : Jvm.MethodName)) ∈ lw_all := lw_mem 834 (by decide +kernel) rfl
theorem q815 : (Jvm.Cond.selects "HayThievesModel" ({ cls := "HayThievesModel", name := "wake", desc := "(I)I" } : Jvm.MethodName) ({ cls := "HayThievesModel", name := "wake", desc := "(I)I" } : Jvm.MethodName)) ∈ lw_all := lw_mem 835 (by decide +kernel) rfl
theorem q816 : (Jvm.Cond.code ({ cls := "HayThievesModel", name := "wake", desc := "(I)I" } : Jvm.MethodName) prog_7_method_19_code (2 : Nat) (Option.some Jvm.ClassFile.FieldType.int)) ∈ lw_all := lw_mem 836 (by decide +kernel) rfl
theorem q817 : (Jvm.Cond.methodLink "HayThievesModel" (147 : Nat) ({ cls := "HayThievesModel", name := "sleepers", desc := "(LHayThievesModel$State;)I" } : Jvm.MethodName)) ∈ lw_all := lw_mem 837 (by decide +kernel) rfl
theorem q819 : (Jvm.Cond.instanceMethod ({ cls := "HayThievesModel", name := "sleepers", desc := "(LHayThievesModel$State;)I" } : Jvm.MethodName)) ∈ lw_all := lw_mem 839 (by decide +kernel) rfl
theorem q820 : (Jvm.Cond.code ({ cls := "HayThievesModel", name := "sleepers", desc := "(LHayThievesModel$State;)I" } : Jvm.MethodName) prog_7_method_18_code (4 : Nat) (Option.some Jvm.ClassFile.FieldType.int)) ∈ lw_all := lw_mem 840 (by decide +kernel) rfl
theorem q821 : (Jvm.Cond.methodLink "HayThievesLaw" (94 : Nat) ({ cls := "HayThievesModel", name := "lad", desc := "(II)I" } : Jvm.MethodName)) ∈ lw_all := lw_mem 841 (by decide +kernel) rfl
theorem q822 : (Jvm.Cond.instanceMethod ({ cls := "HayThievesModel", name := "lad", desc := "(II)I" } : Jvm.MethodName)) ∈ lw_all := lw_mem 842 (by decide +kernel) rfl
theorem q823 : (Jvm.Cond.selects "HayThievesModel" ({ cls := "HayThievesModel", name := "lad", desc := "(II)I" } : Jvm.MethodName) ({ cls := "HayThievesModel", name := "lad", desc := "(II)I" } : Jvm.MethodName)) ∈ lw_all := lw_mem 843 (by decide +kernel) rfl
theorem q824 : (Jvm.Cond.code ({ cls := "HayThievesModel", name := "lad", desc := "(II)I" } : Jvm.MethodName) prog_7_method_22_code (3 : Nat) (Option.some Jvm.ClassFile.FieldType.int)) ∈ lw_all := lw_mem 844 (by decide +kernel) rfl
theorem q825 : (Jvm.Cond.methodLink "HayThievesModel" (165 : Nat) ({ cls := "HayThievesModel", name := "ladTold", desc := "(II)I" } : Jvm.MethodName)) ∈ lw_all := lw_mem 845 (by decide +kernel) rfl
theorem q827 : (Jvm.Cond.instanceMethod ({ cls := "HayThievesModel", name := "ladTold", desc := "(II)I" } : Jvm.MethodName)) ∈ lw_all := lw_mem 847 (by decide +kernel) rfl
theorem q828 : (Jvm.Cond.code ({ cls := "HayThievesModel", name := "ladTold", desc := "(II)I" } : Jvm.MethodName) prog_7_method_21_code (3 : Nat) (Option.some Jvm.ClassFile.FieldType.int)) ∈ lw_all := lw_mem 848 (by decide +kernel) rfl
theorem q829 : (Jvm.Cond.methodLink "HayThievesModel" (162 : Nat) ({ cls := "HayThievesModel", name := "loadOf", desc := "(I)I" } : Jvm.MethodName)) ∈ lw_all := lw_mem 849 (by decide +kernel) rfl
theorem q831 : (Jvm.Cond.instanceMethod ({ cls := "HayThievesModel", name := "loadOf", desc := "(I)I" } : Jvm.MethodName)) ∈ lw_all := lw_mem 851 (by decide +kernel) rfl
theorem q832 : (Jvm.Cond.code ({ cls := "HayThievesModel", name := "loadOf", desc := "(I)I" } : Jvm.MethodName) prog_7_method_20_code (2 : Nat) (Option.some Jvm.ClassFile.FieldType.int)) ∈ lw_all := lw_mem 852 (by decide +kernel) rfl
theorem q833 : (Jvm.Cond.methodLink "HayThievesLaw" (97 : Nat) ({ cls := "HayThievesModel", name := "cart", desc := "(II)I" } : Jvm.MethodName)) ∈ lw_all := lw_mem 853 (by decide +kernel) rfl
theorem q834 : (Jvm.Cond.instanceMethod ({ cls := "HayThievesModel", name := "cart", desc := "(II)I" } : Jvm.MethodName)) ∈ lw_all := lw_mem 854 (by decide +kernel) rfl
theorem q835 : (Jvm.Cond.selects "HayThievesModel" ({ cls := "HayThievesModel", name := "cart", desc := "(II)I" } : Jvm.MethodName) ({ cls := "HayThievesModel", name := "cart", desc := "(II)I" } : Jvm.MethodName)) ∈ lw_all := lw_mem 855 (by decide +kernel) rfl
theorem q836 : (Jvm.Cond.code ({ cls := "HayThievesModel", name := "cart", desc := "(II)I" } : Jvm.MethodName) prog_7_method_23_code (3 : Nat) (Option.some Jvm.ClassFile.FieldType.int)) ∈ lw_all := lw_mem 856 (by decide +kernel) rfl
theorem q837 : (Jvm.Cond.methodLink "HayThievesLaw" (100 : Nat) ({ cls := "HayThievesModel", name := "load", desc := "(II)I" } : Jvm.MethodName)) ∈ lw_all := lw_mem 857 (by decide +kernel) rfl
theorem q838 : (Jvm.Cond.instanceMethod ({ cls := "HayThievesModel", name := "load", desc := "(II)I" } : Jvm.MethodName)) ∈ lw_all := lw_mem 858 (by decide +kernel) rfl
theorem q839 : (Jvm.Cond.selects "HayThievesModel" ({ cls := "HayThievesModel", name := "load", desc := "(II)I" } : Jvm.MethodName) ({ cls := "HayThievesModel", name := "load", desc := "(II)I" } : Jvm.MethodName)) ∈ lw_all := lw_mem 859 (by decide +kernel) rfl
theorem q840 : (Jvm.Cond.code ({ cls := "HayThievesModel", name := "load", desc := "(II)I" } : Jvm.MethodName) prog_7_method_25_code (3 : Nat) (Option.some Jvm.ClassFile.FieldType.int)) ∈ lw_all := lw_mem 860 (by decide +kernel) rfl
theorem q841 : (Jvm.Cond.methodLink "HayThievesModel" (175 : Nat) ({ cls := "HayThievesModel", name := "isLoad", desc := "(I)Z" } : Jvm.MethodName)) ∈ lw_all := lw_mem 861 (by decide +kernel) rfl
theorem q843 : (Jvm.Cond.instanceMethod ({ cls := "HayThievesModel", name := "isLoad", desc := "(I)Z" } : Jvm.MethodName)) ∈ lw_all := lw_mem 863 (by decide +kernel) rfl
theorem q844 : (Jvm.Cond.code ({ cls := "HayThievesModel", name := "isLoad", desc := "(I)Z" } : Jvm.MethodName) prog_7_method_6_code (2 : Nat) (Option.some Jvm.ClassFile.FieldType.boolean)) ∈ lw_all := lw_mem 864 (by decide +kernel) rfl
theorem q845 : (Jvm.Cond.methodLink "HayThievesModel" (178 : Nat) ({ cls := "HayThievesModel", name := "loadTold", desc := "(II)I" } : Jvm.MethodName)) ∈ lw_all := lw_mem 865 (by decide +kernel) rfl
theorem q847 : (Jvm.Cond.instanceMethod ({ cls := "HayThievesModel", name := "loadTold", desc := "(II)I" } : Jvm.MethodName)) ∈ lw_all := lw_mem 867 (by decide +kernel) rfl
theorem q848 : (Jvm.Cond.code ({ cls := "HayThievesModel", name := "loadTold", desc := "(II)I" } : Jvm.MethodName) prog_7_method_24_code (3 : Nat) (Option.some Jvm.ClassFile.FieldType.int)) ∈ lw_all := lw_mem 868 (by decide +kernel) rfl
theorem q849 : (Jvm.Cond.methodLink "HayThievesLaw" (103 : Nat) ({ cls := "HayThievesModel", name := "count", desc := "(I)I" } : Jvm.MethodName)) ∈ lw_all := lw_mem 869 (by decide +kernel) rfl
theorem q850 : (Jvm.Cond.instanceMethod ({ cls := "HayThievesModel", name := "count", desc := "(I)I" } : Jvm.MethodName)) ∈ lw_all := lw_mem 870 (by decide +kernel) rfl
theorem q851 : (Jvm.Cond.selects "HayThievesModel" ({ cls := "HayThievesModel", name := "count", desc := "(I)I" } : Jvm.MethodName) ({ cls := "HayThievesModel", name := "count", desc := "(I)I" } : Jvm.MethodName)) ∈ lw_all := lw_mem 871 (by decide +kernel) rfl
theorem q852 : (Jvm.Cond.code ({ cls := "HayThievesModel", name := "count", desc := "(I)I" } : Jvm.MethodName) prog_7_method_29_code (2 : Nat) (Option.some Jvm.ClassFile.FieldType.int)) ∈ lw_all := lw_mem 872 (by decide +kernel) rfl
theorem q853 : (Jvm.Cond.methodLink "HayThievesModel" (197 : Nat) ({ cls := "HayThievesModel", name := "counted", desc := "(LHayThievesModel$State;I)I" } : Jvm.MethodName)) ∈ lw_all := lw_mem 873 (by decide +kernel) rfl
theorem q855 : (Jvm.Cond.instanceMethod ({ cls := "HayThievesModel", name := "counted", desc := "(LHayThievesModel$State;I)I" } : Jvm.MethodName)) ∈ lw_all := lw_mem 875 (by decide +kernel) rfl
theorem q856 : (Jvm.Cond.code ({ cls := "HayThievesModel", name := "counted", desc := "(LHayThievesModel$State;I)I" } : Jvm.MethodName) prog_7_method_28_code (3 : Nat) (Option.some Jvm.ClassFile.FieldType.int)) ∈ lw_all := lw_mem 876 (by decide +kernel) rfl
theorem q857 : (Jvm.Cond.methodLink "HayThievesModel" (181 : Nat) ({ cls := "HayThievesModel", name := "loadsThat", desc := "(LHayThievesModel$State;I)I" } : Jvm.MethodName)) ∈ lw_all := lw_mem 877 (by decide +kernel) rfl
theorem q859 : (Jvm.Cond.instanceMethod ({ cls := "HayThievesModel", name := "loadsThat", desc := "(LHayThievesModel$State;I)I" } : Jvm.MethodName)) ∈ lw_all := lw_mem 879 (by decide +kernel) rfl
theorem q860 : (Jvm.Cond.code ({ cls := "HayThievesModel", name := "loadsThat", desc := "(LHayThievesModel$State;I)I" } : Jvm.MethodName) prog_7_method_26_code (5 : Nat) (Option.some Jvm.ClassFile.FieldType.int)) ∈ lw_all := lw_mem 880 (by decide +kernel) rfl
theorem q861 : (Jvm.Cond.methodLink "HayThievesModel" (184 : Nat) ({ cls := "HayThievesModel", name := "sumOf", desc := "([I)I" } : Jvm.MethodName)) ∈ lw_all := lw_mem 881 (by decide +kernel) rfl
theorem q863 : (Jvm.Cond.instanceMethod ({ cls := "HayThievesModel", name := "sumOf", desc := "([I)I" } : Jvm.MethodName)) ∈ lw_all := lw_mem 883 (by decide +kernel) rfl
theorem q864 : (Jvm.Cond.code ({ cls := "HayThievesModel", name := "sumOf", desc := "([I)I" } : Jvm.MethodName) prog_7_method_27_code (4 : Nat) (Option.some Jvm.ClassFile.FieldType.int)) ∈ lw_all := lw_mem 884 (by decide +kernel) rfl
theorem q865 : (Jvm.Cond.methodLink "HayThievesLaw" (106 : Nat) ({ cls := "HayThievesModel", name := "victim", desc := "(I)I" } : Jvm.MethodName)) ∈ lw_all := lw_mem 885 (by decide +kernel) rfl
theorem q866 : (Jvm.Cond.instanceMethod ({ cls := "HayThievesModel", name := "victim", desc := "(I)I" } : Jvm.MethodName)) ∈ lw_all := lw_mem 886 (by decide +kernel) rfl
theorem q867 : (Jvm.Cond.selects "HayThievesModel" ({ cls := "HayThievesModel", name := "victim", desc := "(I)I" } : Jvm.MethodName) ({ cls := "HayThievesModel", name := "victim", desc := "(I)I" } : Jvm.MethodName)) ∈ lw_all := lw_mem 887 (by decide +kernel) rfl
theorem q868 : (Jvm.Cond.code ({ cls := "HayThievesModel", name := "victim", desc := "(I)I" } : Jvm.MethodName) prog_7_method_30_code (2 : Nat) (Option.some Jvm.ClassFile.FieldType.int)) ∈ lw_all := lw_mem 888 (by decide +kernel) rfl
theorem q869 : (Jvm.Cond.methodLink "HayThievesModel" (102 : Nat) ({ cls := "HayThievesModel", name := "victimOf", desc := "(LHayThievesModel$State;I)I" } : Jvm.MethodName)) ∈ lw_all := lw_mem 889 (by decide +kernel) rfl
theorem q871 : (Jvm.Cond.instanceMethod ({ cls := "HayThievesModel", name := "victimOf", desc := "(LHayThievesModel$State;I)I" } : Jvm.MethodName)) ∈ lw_all := lw_mem 891 (by decide +kernel) rfl
theorem q872 : (Jvm.Cond.code ({ cls := "HayThievesModel", name := "victimOf", desc := "(LHayThievesModel$State;I)I" } : Jvm.MethodName) prog_7_method_8_code (6 : Nat) (Option.some Jvm.ClassFile.FieldType.int)) ∈ lw_all := lw_mem 892 (by decide +kernel) rfl
theorem q873 : (Jvm.Cond.methodLink "HayThievesModel" (59 : Nat) ({ cls := "HayThievesModel", name := "rank", desc := "(LHayThievesModel$State;II)I" } : Jvm.MethodName)) ∈ lw_all := lw_mem 893 (by decide +kernel) rfl
theorem q875 : (Jvm.Cond.instanceMethod ({ cls := "HayThievesModel", name := "rank", desc := "(LHayThievesModel$State;II)I" } : Jvm.MethodName)) ∈ lw_all := lw_mem 895 (by decide +kernel) rfl
theorem q876 : (Jvm.Cond.code ({ cls := "HayThievesModel", name := "rank", desc := "(LHayThievesModel$State;II)I" } : Jvm.MethodName) prog_7_method_7_code (4 : Nat) (Option.some Jvm.ClassFile.FieldType.int)) ∈ lw_all := lw_mem 896 (by decide +kernel) rfl
theorem q877 : (Jvm.Cond.methodLink "HayThievesModel" (55 : Nat) ({ cls := "HayThievesModel$State", name := "far", desc := "(I)I" } : Jvm.MethodName)) ∈ lw_all := lw_mem 897 (by decide +kernel) rfl
theorem q878 : (Jvm.Cond.instanceMethod ({ cls := "HayThievesModel$State", name := "far", desc := "(I)I" } : Jvm.MethodName)) ∈ lw_all := lw_mem 898 (by decide +kernel) rfl
theorem q879 : (Jvm.Cond.selects "HayThievesModel$State" ({ cls := "HayThievesModel$State", name := "far", desc := "(I)I" } : Jvm.MethodName) ({ cls := "HayThievesModel$State", name := "far", desc := "(I)I" } : Jvm.MethodName)) ∈ lw_all := lw_mem 899 (by decide +kernel) rfl
theorem q880 : (Jvm.Cond.code ({ cls := "HayThievesModel$State", name := "far", desc := "(I)I" } : Jvm.MethodName) prog_8_method_5_code (2 : Nat) (Option.some Jvm.ClassFile.FieldType.int)) ∈ lw_all := lw_mem 900 (by decide +kernel) rfl
theorem q881 : (Jvm.Cond.methodLink "HayThievesLaw" (110 : Nat) ({ cls := "HayThievesModel", name := "thief", desc := "()I" } : Jvm.MethodName)) ∈ lw_all := lw_mem 901 (by decide +kernel) rfl
theorem q882 : (Jvm.Cond.instanceMethod ({ cls := "HayThievesModel", name := "thief", desc := "()I" } : Jvm.MethodName)) ∈ lw_all := lw_mem 902 (by decide +kernel) rfl
theorem q883 : (Jvm.Cond.selects "HayThievesModel" ({ cls := "HayThievesModel", name := "thief", desc := "()I" } : Jvm.MethodName) ({ cls := "HayThievesModel", name := "thief", desc := "()I" } : Jvm.MethodName)) ∈ lw_all := lw_mem 903 (by decide +kernel) rfl
theorem q884 : (Jvm.Cond.code ({ cls := "HayThievesModel", name := "thief", desc := "()I" } : Jvm.MethodName) prog_7_method_31_code (3 : Nat) (Option.some Jvm.ClassFile.FieldType.int)) ∈ lw_all := lw_mem 904 (by decide +kernel) rfl
theorem q885 : (Jvm.Cond.methodLink "HayThievesLaw" (113 : Nat) ({ cls := "HayThievesModel", name := "pass", desc := "(I)I" } : Jvm.MethodName)) ∈ lw_all := lw_mem 905 (by decide +kernel) rfl
theorem q886 : (Jvm.Cond.instanceMethod ({ cls := "HayThievesModel", name := "pass", desc := "(I)I" } : Jvm.MethodName)) ∈ lw_all := lw_mem 906 (by decide +kernel) rfl
theorem q887 : (Jvm.Cond.selects "HayThievesModel" ({ cls := "HayThievesModel", name := "pass", desc := "(I)I" } : Jvm.MethodName) ({ cls := "HayThievesModel", name := "pass", desc := "(I)I" } : Jvm.MethodName)) ∈ lw_all := lw_mem 907 (by decide +kernel) rfl
theorem q888 : (Jvm.Cond.code ({ cls := "HayThievesModel", name := "pass", desc := "(I)I" } : Jvm.MethodName) prog_7_method_32_code (3 : Nat) (Option.some Jvm.ClassFile.FieldType.int)) ∈ lw_all := lw_mem 908 (by decide +kernel) rfl
theorem q889 : (Jvm.Cond.methodLink "HayThievesModel" (200 : Nat) ({ cls := "HayThievesModel", name := "passAll", desc := "(LHayThievesModel$State;II)LHayThievesModel$State;" } : Jvm.MethodName)) ∈ lw_all := lw_mem 909 (by decide +kernel) rfl
theorem q891 : (Jvm.Cond.instanceMethod ({ cls := "HayThievesModel", name := "passAll", desc := "(LHayThievesModel$State;II)LHayThievesModel$State;" } : Jvm.MethodName)) ∈ lw_all := lw_mem 911 (by decide +kernel) rfl
theorem q892 : (Jvm.Cond.code ({ cls := "HayThievesModel", name := "passAll", desc := "(LHayThievesModel$State;II)LHayThievesModel$State;" } : Jvm.MethodName) prog_7_method_12_code (5 : Nat) (Option.some (Jvm.ClassFile.FieldType.object "HayThievesModel$State"))) ∈ lw_all := lw_mem 912 (by decide +kernel) rfl
theorem q893 : (Jvm.Cond.methodLink "HayThievesModel" (123 : Nat) ({ cls := "HayThievesModel", name := "pass", desc := "(LHayThievesModel$State;I)V" } : Jvm.MethodName)) ∈ lw_all := lw_mem 913 (by decide +kernel) rfl
theorem q895 : (Jvm.Cond.instanceMethod ({ cls := "HayThievesModel", name := "pass", desc := "(LHayThievesModel$State;I)V" } : Jvm.MethodName)) ∈ lw_all := lw_mem 915 (by decide +kernel) rfl
theorem q896 : (Jvm.Cond.code ({ cls := "HayThievesModel", name := "pass", desc := "(LHayThievesModel$State;I)V" } : Jvm.MethodName) prog_7_method_11_code (4 : Nat) (Option.none : Option Jvm.ClassFile.FieldType)) ∈ lw_all := lw_mem 916 (by decide +kernel) rfl
theorem q897 : (Jvm.Cond.methodLink "HayThievesModel" (116 : Nat) ({ cls := "HayThievesModel", name := "turn", desc := "(LHayThievesModel$State;II)V" } : Jvm.MethodName)) ∈ lw_all := lw_mem 917 (by decide +kernel) rfl
theorem q899 : (Jvm.Cond.instanceMethod ({ cls := "HayThievesModel", name := "turn", desc := "(LHayThievesModel$State;II)V" } : Jvm.MethodName)) ∈ lw_all := lw_mem 919 (by decide +kernel) rfl
theorem q900 : (Jvm.Cond.code ({ cls := "HayThievesModel", name := "turn", desc := "(LHayThievesModel$State;II)V" } : Jvm.MethodName) prog_7_method_10_code (6 : Nat) (Option.none : Option Jvm.ClassFile.FieldType)) ∈ lw_all := lw_mem 920 (by decide +kernel) rfl
theorem q901 : (Jvm.Cond.methodLink "HayThievesModel" (78 : Nat) ({ cls := "HayThievesModel$State", name := "finish", desc := "(II)V" } : Jvm.MethodName)) ∈ lw_all := lw_mem 921 (by decide +kernel) rfl
theorem q902 : (Jvm.Cond.instanceMethod ({ cls := "HayThievesModel$State", name := "finish", desc := "(II)V" } : Jvm.MethodName)) ∈ lw_all := lw_mem 922 (by decide +kernel) rfl
theorem q903 : (Jvm.Cond.selects "HayThievesModel$State" ({ cls := "HayThievesModel$State", name := "finish", desc := "(II)V" } : Jvm.MethodName) ({ cls := "HayThievesModel$State", name := "finish", desc := "(II)V" } : Jvm.MethodName)) ∈ lw_all := lw_mem 923 (by decide +kernel) rfl
theorem q904 : (Jvm.Cond.code ({ cls := "HayThievesModel$State", name := "finish", desc := "(II)V" } : Jvm.MethodName) prog_8_method_9_code (3 : Nat) (Option.none : Option Jvm.ClassFile.FieldType)) ∈ lw_all := lw_mem 924 (by decide +kernel) rfl
theorem q905 : (Jvm.Cond.methodLink "HayThievesModel" (82 : Nat) ({ cls := "HayThievesModel$State", name := "takeNear", desc := "(I)I" } : Jvm.MethodName)) ∈ lw_all := lw_mem 925 (by decide +kernel) rfl
theorem q906 : (Jvm.Cond.instanceMethod ({ cls := "HayThievesModel$State", name := "takeNear", desc := "(I)I" } : Jvm.MethodName)) ∈ lw_all := lw_mem 926 (by decide +kernel) rfl
theorem q907 : (Jvm.Cond.selects "HayThievesModel$State" ({ cls := "HayThievesModel$State", name := "takeNear", desc := "(I)I" } : Jvm.MethodName) ({ cls := "HayThievesModel$State", name := "takeNear", desc := "(I)I" } : Jvm.MethodName)) ∈ lw_all := lw_mem 927 (by decide +kernel) rfl
theorem q908 : (Jvm.Cond.code ({ cls := "HayThievesModel$State", name := "takeNear", desc := "(I)I" } : Jvm.MethodName) prog_8_method_7_code (3 : Nat) (Option.some Jvm.ClassFile.FieldType.int)) ∈ lw_all := lw_mem 928 (by decide +kernel) rfl
theorem q909 : (Jvm.Cond.methodLink "HayThievesModel$State" (72 : Nat) ({ cls := "java/lang/System", name := "arraycopy", desc := "(Ljava/lang/Object;ILjava/lang/Object;II)V" } : Jvm.MethodName)) ∈ lw_all := lw_mem 929 (by decide +kernel) rfl
theorem q910 : (Jvm.Cond.methodLink "HayThievesModel" (85 : Nat) ({ cls := "HayThievesModel$State", name := "hold", desc := "(II)V" } : Jvm.MethodName)) ∈ lw_all := lw_mem 930 (by decide +kernel) rfl
theorem q911 : (Jvm.Cond.instanceMethod ({ cls := "HayThievesModel$State", name := "hold", desc := "(II)V" } : Jvm.MethodName)) ∈ lw_all := lw_mem 931 (by decide +kernel) rfl
theorem q912 : (Jvm.Cond.selects "HayThievesModel$State" ({ cls := "HayThievesModel$State", name := "hold", desc := "(II)V" } : Jvm.MethodName) ({ cls := "HayThievesModel$State", name := "hold", desc := "(II)V" } : Jvm.MethodName)) ∈ lw_all := lw_mem 932 (by decide +kernel) rfl
theorem q913 : (Jvm.Cond.code ({ cls := "HayThievesModel$State", name := "hold", desc := "(II)V" } : Jvm.MethodName) prog_8_method_8_code (3 : Nat) (Option.none : Option Jvm.ClassFile.FieldType)) ∈ lw_all := lw_mem 933 (by decide +kernel) rfl
theorem q914 : (Jvm.Cond.methodLink "HayThievesModel" (91 : Nat) ({ cls := "HayThievesModel$State", name := "forkIt", desc := "(II)V" } : Jvm.MethodName)) ∈ lw_all := lw_mem 934 (by decide +kernel) rfl
theorem q915 : (Jvm.Cond.instanceMethod ({ cls := "HayThievesModel$State", name := "forkIt", desc := "(II)V" } : Jvm.MethodName)) ∈ lw_all := lw_mem 935 (by decide +kernel) rfl
theorem q916 : (Jvm.Cond.selects "HayThievesModel$State" ({ cls := "HayThievesModel$State", name := "forkIt", desc := "(II)V" } : Jvm.MethodName) ({ cls := "HayThievesModel$State", name := "forkIt", desc := "(II)V" } : Jvm.MethodName)) ∈ lw_all := lw_mem 936 (by decide +kernel) rfl
theorem q917 : (Jvm.Cond.code ({ cls := "HayThievesModel$State", name := "forkIt", desc := "(II)V" } : Jvm.MethodName) prog_8_method_10_code (6 : Nat) (Option.none : Option Jvm.ClassFile.FieldType)) ∈ lw_all := lw_mem 937 (by decide +kernel) rfl
theorem q918 : (Jvm.Cond.methodLink "HayThievesModel$State" (101 : Nat) ({ cls := "HayThievesModel$State", name := "add", desc := "(III)I" } : Jvm.MethodName)) ∈ lw_all := lw_mem 938 (by decide +kernel) rfl
theorem q919 : (Jvm.Cond.methodLink "HayThievesModel$State" (105 : Nat) ({ cls := "HayThievesModel$State", name := "putNear", desc := "(II)V" } : Jvm.MethodName)) ∈ lw_all := lw_mem 939 (by decide +kernel) rfl
theorem q920 : (Jvm.Cond.instanceMethod ({ cls := "HayThievesModel$State", name := "putNear", desc := "(II)V" } : Jvm.MethodName)) ∈ lw_all := lw_mem 940 (by decide +kernel) rfl
theorem q921 : (Jvm.Cond.selects "HayThievesModel$State" ({ cls := "HayThievesModel$State", name := "putNear", desc := "(II)V" } : Jvm.MethodName) ({ cls := "HayThievesModel$State", name := "putNear", desc := "(II)V" } : Jvm.MethodName)) ∈ lw_all := lw_mem 941 (by decide +kernel) rfl
theorem q922 : (Jvm.Cond.code ({ cls := "HayThievesModel$State", name := "putNear", desc := "(II)V" } : Jvm.MethodName) prog_8_method_6_code (3 : Nat) (Option.none : Option Jvm.ClassFile.FieldType)) ∈ lw_all := lw_mem 942 (by decide +kernel) rfl
theorem q923 : (Jvm.Cond.methodLink "HayThievesModel" (94 : Nat) ({ cls := "HayThievesModel$State", name := "pitch", desc := "(III)V" } : Jvm.MethodName)) ∈ lw_all := lw_mem 943 (by decide +kernel) rfl
theorem q924 : (Jvm.Cond.instanceMethod ({ cls := "HayThievesModel$State", name := "pitch", desc := "(III)V" } : Jvm.MethodName)) ∈ lw_all := lw_mem 944 (by decide +kernel) rfl
theorem q925 : (Jvm.Cond.selects "HayThievesModel$State" ({ cls := "HayThievesModel$State", name := "pitch", desc := "(III)V" } : Jvm.MethodName) ({ cls := "HayThievesModel$State", name := "pitch", desc := "(III)V" } : Jvm.MethodName)) ∈ lw_all := lw_mem 945 (by decide +kernel) rfl
theorem q926 : (Jvm.Cond.code ({ cls := "HayThievesModel$State", name := "pitch", desc := "(III)V" } : Jvm.MethodName) prog_8_method_11_code (5 : Nat) (Option.none : Option Jvm.ClassFile.FieldType)) ∈ lw_all := lw_mem 946 (by decide +kernel) rfl
theorem q927 : (Jvm.Cond.methodLink "HayThievesModel$State" (109 : Nat) ({ cls := "java/lang/Math", name := "min", desc := "(II)I" } : Jvm.MethodName)) ∈ lw_all := lw_mem 947 (by decide +kernel) rfl
theorem q928 : (Jvm.Cond.static ({ cls := "java/lang/Math", name := "min", desc := "(II)I" } : Jvm.MethodName)) ∈ lw_all := lw_mem 948 (by decide +kernel) rfl
theorem q929 : (Jvm.Cond.code ({ cls := "java/lang/Math", name := "min", desc := "(II)I" } : Jvm.MethodName) prog_13_method_69_code (2 : Nat) (Option.some Jvm.ClassFile.FieldType.int)) ∈ lw_all := lw_mem 949 (by decide +kernel) rfl
theorem q930 : (Jvm.Cond.methodLink "HayThievesModel$State" (115 : Nat) ({ cls := "HayThievesModel$State", name := "finish", desc := "(II)V" } : Jvm.MethodName)) ∈ lw_all := lw_mem 950 (by decide +kernel) rfl
theorem q931 : (Jvm.Cond.methodLink "HayThievesModel" (98 : Nat) ({ cls := "HayThievesModel", name := "inYard", desc := "(LHayThievesModel$State;)I" } : Jvm.MethodName)) ∈ lw_all := lw_mem 951 (by decide +kernel) rfl
theorem q933 : (Jvm.Cond.instanceMethod ({ cls := "HayThievesModel", name := "inYard", desc := "(LHayThievesModel$State;)I" } : Jvm.MethodName)) ∈ lw_all := lw_mem 953 (by decide +kernel) rfl
theorem q934 : (Jvm.Cond.code ({ cls := "HayThievesModel", name := "inYard", desc := "(LHayThievesModel$State;)I" } : Jvm.MethodName) prog_7_method_9_code (3 : Nat) (Option.some Jvm.ClassFile.FieldType.int)) ∈ lw_all := lw_mem 954 (by decide +kernel) rfl
theorem q935 : (Jvm.Cond.methodLink "HayThievesModel" (106 : Nat) ({ cls := "HayThievesModel$State", name := "rest", desc := "(I)V" } : Jvm.MethodName)) ∈ lw_all := lw_mem 955 (by decide +kernel) rfl
theorem q936 : (Jvm.Cond.instanceMethod ({ cls := "HayThievesModel$State", name := "rest", desc := "(I)V" } : Jvm.MethodName)) ∈ lw_all := lw_mem 956 (by decide +kernel) rfl
theorem q937 : (Jvm.Cond.selects "HayThievesModel$State" ({ cls := "HayThievesModel$State", name := "rest", desc := "(I)V" } : Jvm.MethodName) ({ cls := "HayThievesModel$State", name := "rest", desc := "(I)V" } : Jvm.MethodName)) ∈ lw_all := lw_mem 957 (by decide +kernel) rfl
theorem q938 : (Jvm.Cond.code ({ cls := "HayThievesModel$State", name := "rest", desc := "(I)V" } : Jvm.MethodName) prog_8_method_12_code (2 : Nat) (Option.none : Option Jvm.ClassFile.FieldType)) ∈ lw_all := lw_mem 958 (by decide +kernel) rfl
theorem q939 : (Jvm.Cond.methodLink "HayThievesModel" (110 : Nat) ({ cls := "HayThievesModel$State", name := "steal", desc := "(II)V" } : Jvm.MethodName)) ∈ lw_all := lw_mem 959 (by decide +kernel) rfl
theorem q940 : (Jvm.Cond.instanceMethod ({ cls := "HayThievesModel$State", name := "steal", desc := "(II)V" } : Jvm.MethodName)) ∈ lw_all := lw_mem 960 (by decide +kernel) rfl
theorem q941 : (Jvm.Cond.selects "HayThievesModel$State" ({ cls := "HayThievesModel$State", name := "steal", desc := "(II)V" } : Jvm.MethodName) ({ cls := "HayThievesModel$State", name := "steal", desc := "(II)V" } : Jvm.MethodName)) ∈ lw_all := lw_mem 961 (by decide +kernel) rfl
theorem q942 : (Jvm.Cond.code ({ cls := "HayThievesModel$State", name := "steal", desc := "(II)V" } : Jvm.MethodName) prog_8_method_13_code (4 : Nat) (Option.none : Option Jvm.ClassFile.FieldType)) ∈ lw_all := lw_mem 962 (by decide +kernel) rfl
theorem q943 : (Jvm.Cond.methodLink "HayThievesModel$State" (118 : Nat) ({ cls := "HayThievesModel$State", name := "far", desc := "(I)I" } : Jvm.MethodName)) ∈ lw_all := lw_mem 963 (by decide +kernel) rfl
theorem q944 : (Jvm.Cond.methodLink "HayThievesModel$State" (122 : Nat) ({ cls := "HayThievesModel$State", name := "hold", desc := "(II)V" } : Jvm.MethodName)) ∈ lw_all := lw_mem 964 (by decide +kernel) rfl
theorem q945 : (Jvm.Cond.methodLink "HayThievesLaw" (116 : Nat) ({ cls := "HayThievesModel", name := "until", desc := "(I)I" } : Jvm.MethodName)) ∈ lw_all := lw_mem 965 (by decide +kernel) rfl
theorem q946 : (Jvm.Cond.instanceMethod ({ cls := "HayThievesModel", name := "until", desc := "(I)I" } : Jvm.MethodName)) ∈ lw_all := lw_mem 966 (by decide +kernel) rfl
theorem q947 : (Jvm.Cond.selects "HayThievesModel" ({ cls := "HayThievesModel", name := "until", desc := "(I)I" } : Jvm.MethodName) ({ cls := "HayThievesModel", name := "until", desc := "(I)I" } : Jvm.MethodName)) ∈ lw_all := lw_mem 967 (by decide +kernel) rfl
theorem q948 : (Jvm.Cond.code ({ cls := "HayThievesModel", name := "until", desc := "(I)I" } : Jvm.MethodName) prog_7_method_33_code (3 : Nat) (Option.some Jvm.ClassFile.FieldType.int)) ∈ lw_all := lw_mem 968 (by decide +kernel) rfl
theorem q949 : (Jvm.Cond.methodLink "HayThievesModel" (204 : Nat) ({ cls := "HayThievesModel$State", name := "become", desc := "(LHayThievesModel$State;)LHayThievesModel$State;" } : Jvm.MethodName)) ∈ lw_all := lw_mem 969 (by decide +kernel) rfl
theorem q950 : (Jvm.Cond.instanceMethod ({ cls := "HayThievesModel$State", name := "become", desc := "(LHayThievesModel$State;)LHayThievesModel$State;" } : Jvm.MethodName)) ∈ lw_all := lw_mem 970 (by decide +kernel) rfl
theorem q951 : (Jvm.Cond.selects "HayThievesModel$State" ({ cls := "HayThievesModel$State", name := "become", desc := "(LHayThievesModel$State;)LHayThievesModel$State;" } : Jvm.MethodName) ({ cls := "HayThievesModel$State", name := "become", desc := "(LHayThievesModel$State;)LHayThievesModel$State;" } : Jvm.MethodName)) ∈ lw_all := lw_mem 971 (by decide +kernel) rfl
theorem q952 : (Jvm.Cond.code ({ cls := "HayThievesModel$State", name := "become", desc := "(LHayThievesModel$State;)LHayThievesModel$State;" } : Jvm.MethodName) prog_8_method_3_code (2 : Nat) (Option.some (Jvm.ClassFile.FieldType.object "HayThievesModel$State"))) ∈ lw_all := lw_mem 972 (by decide +kernel) rfl
theorem q953 : (Jvm.Cond.methodLink "HayThievesModel$State" (97 : Nat) ({ cls := "HayThievesModel$State", name := "copy", desc := "([I[II)V" } : Jvm.MethodName)) ∈ lw_all := lw_mem 973 (by decide +kernel) rfl
theorem q954 : (Jvm.Cond.static ({ cls := "HayThievesModel$State", name := "copy", desc := "([I[II)V" } : Jvm.MethodName)) ∈ lw_all := lw_mem 974 (by decide +kernel) rfl
theorem q955 : (Jvm.Cond.code ({ cls := "HayThievesModel$State", name := "copy", desc := "([I[II)V" } : Jvm.MethodName) prog_8_method_2_code (3 : Nat) (Option.none : Option Jvm.ClassFile.FieldType)) ∈ lw_all := lw_mem 975 (by decide +kernel) rfl
theorem q956 : (Jvm.Cond.methodLink "HayThievesLaw" (119 : Nat) ({ cls := "HayThievesModel", name := "foresee", desc := "(II)I" } : Jvm.MethodName)) ∈ lw_all := lw_mem 976 (by decide +kernel) rfl
theorem q957 : (Jvm.Cond.instanceMethod ({ cls := "HayThievesModel", name := "foresee", desc := "(II)I" } : Jvm.MethodName)) ∈ lw_all := lw_mem 977 (by decide +kernel) rfl
theorem q958 : (Jvm.Cond.selects "HayThievesModel" ({ cls := "HayThievesModel", name := "foresee", desc := "(II)I" } : Jvm.MethodName) ({ cls := "HayThievesModel", name := "foresee", desc := "(II)I" } : Jvm.MethodName)) ∈ lw_all := lw_mem 978 (by decide +kernel) rfl
theorem q959 : (Jvm.Cond.code ({ cls := "HayThievesModel", name := "foresee", desc := "(II)I" } : Jvm.MethodName) prog_7_method_34_code (3 : Nat) (Option.some Jvm.ClassFile.FieldType.int)) ∈ lw_all := lw_mem 979 (by decide +kernel) rfl
theorem q960 : (Jvm.Cond.methodLink "HayThievesLaw" (122 : Nat) ({ cls := "HayThievesModel", name := "advise", desc := "(I)I" } : Jvm.MethodName)) ∈ lw_all := lw_mem 980 (by decide +kernel) rfl
theorem q961 : (Jvm.Cond.instanceMethod ({ cls := "HayThievesModel", name := "advise", desc := "(I)I" } : Jvm.MethodName)) ∈ lw_all := lw_mem 981 (by decide +kernel) rfl
theorem q962 : (Jvm.Cond.selects "HayThievesModel" ({ cls := "HayThievesModel", name := "advise", desc := "(I)I" } : Jvm.MethodName) ({ cls := "HayThievesModel", name := "advise", desc := "(I)I" } : Jvm.MethodName)) ∈ lw_all := lw_mem 982 (by decide +kernel) rfl
theorem q963 : (Jvm.Cond.code ({ cls := "HayThievesModel", name := "advise", desc := "(I)I" } : Jvm.MethodName) prog_7_method_35_code (9 : Nat) (Option.some Jvm.ClassFile.FieldType.int)) ∈ lw_all := lw_mem 983 (by decide +kernel) rfl
theorem q964 : (Jvm.Cond.fieldLink "HayThievesModel" (208 : Nat) "HayThievesModel" "SIZES" "[I") ∈ lw_all := lw_mem 984 (by decide +kernel) rfl
theorem q966 : (Jvm.Cond.methodLink "HayThievesLaw" (127 : Nat) ({ cls := "HayThievesModel", name := "mean", desc := "()D" } : Jvm.MethodName)) ∈ lw_all := lw_mem 986 (by decide +kernel) rfl
theorem q967 : (Jvm.Cond.instanceMethod ({ cls := "HayThievesModel", name := "mean", desc := "()D" } : Jvm.MethodName)) ∈ lw_all := lw_mem 987 (by decide +kernel) rfl
theorem q968 : (Jvm.Cond.selects "HayThievesModel" ({ cls := "HayThievesModel", name := "mean", desc := "()D" } : Jvm.MethodName) ({ cls := "HayThievesModel", name := "mean", desc := "()D" } : Jvm.MethodName)) ∈ lw_all := lw_mem 988 (by decide +kernel) rfl
theorem q969 : (Jvm.Cond.code ({ cls := "HayThievesModel", name := "mean", desc := "()D" } : Jvm.MethodName) prog_7_method_36_code (1 : Nat) (Option.some Jvm.ClassFile.FieldType.double)) ∈ lw_all := lw_mem 989 (by decide +kernel) rfl
theorem q970 : (Jvm.Cond.methodLink "HayThievesLaw" (132 : Nat) ({ cls := "HayThievesModel", name := "digest", desc := "()J" } : Jvm.MethodName)) ∈ lw_all := lw_mem 990 (by decide +kernel) rfl
theorem q971 : (Jvm.Cond.instanceMethod ({ cls := "HayThievesModel", name := "digest", desc := "()J" } : Jvm.MethodName)) ∈ lw_all := lw_mem 991 (by decide +kernel) rfl
theorem q972 : (Jvm.Cond.selects "HayThievesModel" ({ cls := "HayThievesModel", name := "digest", desc := "()J" } : Jvm.MethodName) ({ cls := "HayThievesModel", name := "digest", desc := "()J" } : Jvm.MethodName)) ∈ lw_all := lw_mem 992 (by decide +kernel) rfl
theorem q973 : (Jvm.Cond.code ({ cls := "HayThievesModel", name := "digest", desc := "()J" } : Jvm.MethodName) prog_7_method_37_code (5 : Nat) (Option.some Jvm.ClassFile.FieldType.long)) ∈ lw_all := lw_mem 993 (by decide +kernel) rfl
theorem q974 : (Jvm.Cond.constantLong "HayThievesModel" (211 : Nat) (1531 : Int64)) ∈ lw_all := lw_mem 994 (by decide +kernel) rfl
theorem q975 : (Jvm.Cond.constantLong "HayThievesModel" (213 : Nat) (31 : Int64)) ∈ lw_all := lw_mem 995 (by decide +kernel) rfl
theorem q976 : (Jvm.Cond.arrayClass Jvm.ClassFile.FieldType.long) ∈ lw_all := lw_mem 996 (by decide +kernel) rfl
theorem qs0 : Cond.selects "HayThieves" ⟨"HayThieves", "mixedWithLad", "(JLHayThieves$Lad;)J"⟩ ⟨"HayThieves", "mixedWithLad", "(JLHayThieves$Lad;)J"⟩ ∈ lw_all := lw_mem 0 (by decide +kernel) rfl
theorem qs1 : Cond.selects "java/lang/Throwable" ⟨"java/lang/Throwable", "fillInStackTrace", "(I)Ljava/lang/Throwable;"⟩ ⟨"java/lang/Throwable", "fillInStackTrace", "(I)Ljava/lang/Throwable;"⟩ ∈ lw_all := lw_mem 1 (by decide +kernel) rfl
theorem qs2 : Cond.selects "HayThieves" ⟨"HayThieves", "needLad", "(I)V"⟩ ⟨"HayThieves", "needLad", "(I)V"⟩ ∈ lw_all := lw_mem 2 (by decide +kernel) rfl
theorem qs3 : Cond.selects "HayThieves" ⟨"HayThieves", "needLoad", "(I)V"⟩ ⟨"HayThieves", "needLoad", "(I)V"⟩ ∈ lw_all := lw_mem 3 (by decide +kernel) rfl
theorem qs4 : Cond.selects "HayThievesModel" ⟨"HayThievesModel", "no", "(I)I"⟩ ⟨"HayThievesModel", "no", "(I)I"⟩ ∈ lw_all := lw_mem 4 (by decide +kernel) rfl
theorem qs5 : Cond.selects "HayThievesModel" ⟨"HayThievesModel", "isLad", "(I)Z"⟩ ⟨"HayThievesModel", "isLad", "(I)Z"⟩ ∈ lw_all := lw_mem 5 (by decide +kernel) rfl
theorem qs6 : Cond.selects "HayThievesModel" ⟨"HayThievesModel", "sleepers", "(LHayThievesModel$State;)I"⟩ ⟨"HayThievesModel", "sleepers", "(LHayThievesModel$State;)I"⟩ ∈ lw_all := lw_mem 6 (by decide +kernel) rfl
theorem qs7 : Cond.selects "HayThievesModel" ⟨"HayThievesModel", "ladTold", "(II)I"⟩ ⟨"HayThievesModel", "ladTold", "(II)I"⟩ ∈ lw_all := lw_mem 7 (by decide +kernel) rfl
theorem qs8 : Cond.selects "HayThievesModel" ⟨"HayThievesModel", "loadOf", "(I)I"⟩ ⟨"HayThievesModel", "loadOf", "(I)I"⟩ ∈ lw_all := lw_mem 8 (by decide +kernel) rfl
theorem qs9 : Cond.selects "HayThievesModel" ⟨"HayThievesModel", "isLoad", "(I)Z"⟩ ⟨"HayThievesModel", "isLoad", "(I)Z"⟩ ∈ lw_all := lw_mem 9 (by decide +kernel) rfl
theorem qs10 : Cond.selects "HayThievesModel" ⟨"HayThievesModel", "loadTold", "(II)I"⟩ ⟨"HayThievesModel", "loadTold", "(II)I"⟩ ∈ lw_all := lw_mem 10 (by decide +kernel) rfl
theorem qs11 : Cond.selects "HayThievesModel" ⟨"HayThievesModel", "counted", "(LHayThievesModel$State;I)I"⟩ ⟨"HayThievesModel", "counted", "(LHayThievesModel$State;I)I"⟩ ∈ lw_all := lw_mem 11 (by decide +kernel) rfl
theorem qs12 : Cond.selects "HayThievesModel" ⟨"HayThievesModel", "loadsThat", "(LHayThievesModel$State;I)I"⟩ ⟨"HayThievesModel", "loadsThat", "(LHayThievesModel$State;I)I"⟩ ∈ lw_all := lw_mem 12 (by decide +kernel) rfl
theorem qs13 : Cond.selects "HayThievesModel" ⟨"HayThievesModel", "sumOf", "([I)I"⟩ ⟨"HayThievesModel", "sumOf", "([I)I"⟩ ∈ lw_all := lw_mem 13 (by decide +kernel) rfl
theorem qs14 : Cond.selects "HayThievesModel" ⟨"HayThievesModel", "victimOf", "(LHayThievesModel$State;I)I"⟩ ⟨"HayThievesModel", "victimOf", "(LHayThievesModel$State;I)I"⟩ ∈ lw_all := lw_mem 14 (by decide +kernel) rfl
theorem qs15 : Cond.selects "HayThievesModel" ⟨"HayThievesModel", "rank", "(LHayThievesModel$State;II)I"⟩ ⟨"HayThievesModel", "rank", "(LHayThievesModel$State;II)I"⟩ ∈ lw_all := lw_mem 15 (by decide +kernel) rfl
theorem qs16 : Cond.selects "HayThievesModel" ⟨"HayThievesModel", "passAll", "(LHayThievesModel$State;II)LHayThievesModel$State;"⟩ ⟨"HayThievesModel", "passAll", "(LHayThievesModel$State;II)LHayThievesModel$State;"⟩ ∈ lw_all := lw_mem 16 (by decide +kernel) rfl
theorem qs17 : Cond.selects "HayThievesModel" ⟨"HayThievesModel", "pass", "(LHayThievesModel$State;I)V"⟩ ⟨"HayThievesModel", "pass", "(LHayThievesModel$State;I)V"⟩ ∈ lw_all := lw_mem 17 (by decide +kernel) rfl
theorem qs18 : Cond.selects "HayThievesModel" ⟨"HayThievesModel", "turn", "(LHayThievesModel$State;II)V"⟩ ⟨"HayThievesModel", "turn", "(LHayThievesModel$State;II)V"⟩ ∈ lw_all := lw_mem 18 (by decide +kernel) rfl
theorem qs19 : Cond.selects "HayThievesModel" ⟨"HayThievesModel", "inYard", "(LHayThievesModel$State;)I"⟩ ⟨"HayThievesModel", "inYard", "(LHayThievesModel$State;)I"⟩ ∈ lw_all := lw_mem 19 (by decide +kernel) rfl
theorem in_X0 : ∀ w ∈ u_ws RX0 TX0 2, w ∈ lw_all := by decide +kernel
theorem in_X1 : ∀ w ∈ u_ws RX1 TX1 12, w ∈ lw_all := by decide +kernel
theorem in_X2 : ∀ w ∈ u_ws RX2 TX2 7, w ∈ lw_all := by decide +kernel
theorem in_X3 : ∀ w ∈ u_ws RX3 TX3 10, w ∈ lw_all := by decide +kernel
theorem in_X4 : ∀ w ∈ u_ws RX4 TX4 2, w ∈ lw_all := by decide +kernel
theorem in_X5 : ∀ w ∈ u_ws RX5 TX5 26, w ∈ lw_all := by decide +kernel
theorem in_X6 : ∀ w ∈ u_ws RX6 TX6 10, w ∈ lw_all := by decide +kernel
def gnestF : List (String × Nat × String × String × String × String) := [("HayThieves$Lad", 53, "HayThieves$Cart", "size", "I", "HayThieves"), ("HayThieves", 78, "HayThieves$Cart", "size", "I", "HayThieves"), ("HayThieves$Yard", 112, "HayThieves$Cart", "size", "I", "HayThieves"), ("HayThieves$Yard", 117, "HayThieves$Lad", "number", "I", "HayThieves"), ("HayThieves$Yard", 54, "HayThieves$Lad", "strength", "I", "HayThieves"), ("HayThieves", 52, "HayThieves$Lad", "way", "I", "HayThieves"), ("HayThieves$Yard", 95, "HayThieves$Lad", "way", "I", "HayThieves"), ("HayThieves", 74, "HayThieves$Lad", "cart", "LHayThieves$Cart;", "HayThieves"), ("HayThieves$Yard", 108, "HayThieves$Lad", "cart", "LHayThieves$Cart;", "HayThieves"), ("HayThieves$Yard", 137, "HayThieves$Lad", "hands", "I", "HayThieves"), ("HayThieves$Yard", 172, "HayThieves$Lad", "balesLeft", "I", "HayThieves"), ("HayThieves$Yard", 134, "HayThieves$Lad", "toJoin", "I", "HayThieves"), ("HayThieves$Yard", 70, "HayThieves$Lad", "asleep", "Z", "HayThieves"), ("HayThieves", 83, "HayThieves$Lad", "asleep", "Z", "HayThieves"), ("HayThieves$Yard", 156, "HayThieves$Lad", "idleInRow", "I", "HayThieves"), ("HayThieves", 125, "HayThieves$Lad", "thefts", "I", "HayThieves"), ("HayThieves$Yard", 213, "HayThieves$Lad", "thefts", "I", "HayThieves"), ("HayThieves$Yard", 216, "HayThieves$Lad", "theftsFrom", "I", "HayThieves"), ("HayThieves$Yard", 57, "HayThieves$Load", "bales", "I", "HayThieves"), ("HayThieves$Yard", 88, "HayThieves$Load", "state", "I", "HayThieves"), ("HayThieves", 139, "HayThieves$Load", "state", "I", "HayThieves"), ("HayThieves$Yard", 60, "HayThieves$Load", "broughtAt", "I", "HayThieves"), ("HayThieves$Yard", 201, "HayThieves$Load", "doneAt", "I", "HayThieves"), ("HayThieves$Yard", 189, "HayThieves$Load", "heaps", "I", "HayThieves"), ("HayThieves$Yard", 219, "HayThieves$Load", "thefts", "I", "HayThieves"), ("HayThieves$Yard", 198, "HayThieves$Load", "pitched", "I", "HayThieves"), ("HayThieves", 48, "HayThieves$Yard", "lads", "[LHayThieves$Lad;", "HayThieves"), ("HayThieves", 111, "HayThieves$Yard", "loads", "[LHayThieves$Load;", "HayThieves"), ("HayThieves", 26, "HayThieves$Yard", "ladCount", "I", "HayThieves"), ("HayThieves", 64, "HayThieves$Yard", "loadCount", "I", "HayThieves"), ("HayThieves", 59, "HayThieves$Yard", "forkSize", "I", "HayThieves"), ("HayThievesModel", 120, "HayThievesModel$State", "minute", "I", "HayThievesModel"), ("HayThievesModel", 188, "HayThievesModel$State", "thefts", "I", "HayThievesModel"), ("HayThievesModel", 191, "HayThievesModel$State", "forkings", "I", "HayThievesModel"), ("HayThievesModel", 69, "HayThievesModel$State", "joinings", "I", "HayThievesModel"), ("HayThievesModel", 194, "HayThievesModel$State", "pitched", "I", "HayThievesModel"), ("HayThievesModel", 66, "HayThievesModel$State", "does", "[I", "HayThievesModel"), ("HayThievesModel", 75, "HayThievesModel$State", "held", "[I", "HayThievesModel"), ("HayThievesModel", 72, "HayThievesModel$State", "row", "[I", "HayThievesModel"), ("HayThievesModel", 153, "HayThievesModel$State", "stole", "[I", "HayThievesModel"), ("HayThievesModel", 156, "HayThievesModel$State", "lost", "[I", "HayThievesModel"), ("HayThievesModel", 159, "HayThievesModel$State", "idle", "[I", "HayThievesModel"), ("HayThievesModel", 49, "HayThievesModel$State", "many", "[I", "HayThievesModel"), ("HayThievesModel", 144, "HayThievesModel$State", "carts", "[I", "HayThievesModel"), ("HayThievesModel", 63, "HayThievesModel$State", "stands", "[I", "HayThievesModel"), ("HayThievesModel", 113, "HayThievesModel$State", "heap", "[I", "HayThievesModel"), ("HayThievesModel", 134, "HayThievesModel$State", "doneAt", "[I", "HayThievesModel"), ("HayThievesModel", 137, "HayThievesModel$State", "made", "[I", "HayThievesModel"), ("HayThievesModel", 169, "HayThievesModel$State", "stolen", "[I", "HayThievesModel"), ("HayThievesModel", 172, "HayThievesModel$State", "out", "[I", "HayThievesModel"), ("HayThievesModel", 52, "HayThievesModel$State", "bales", "[I", "HayThievesModel"), ("HayThievesModel", 88, "HayThievesModel$State", "left", "[I", "HayThievesModel"), ("HayThievesModel", 150, "HayThievesModel$State", "of", "[I", "HayThievesModel")]
def gnestM : List (String × Nat × MethodName × String) := [("HayThieves$Lad", 20, { cls := "HayThieves$Cart", name := "<init>", desc := "()V" }, "HayThieves"), ("HayThieves$Yard", 53, { cls := "HayThieves$Load", name := "<init>", desc := "()V" }, "HayThieves"), ("HayThievesModel", 28, { cls := "HayThievesModel$State", name := "<init>", desc := "()V" }, "HayThievesModel")]
def gnest : List Cond := gnestF.map (fun q => .fieldLinkNest q.1 q.2.1 q.2.2.1 q.2.2.2.1 q.2.2.2.2.1 q.2.2.2.2.2) ++ gnestM.map (fun q => .methodLinkNest q.1 q.2.1 q.2.2.1 q.2.2.2)
theorem gnest_warm {s U : State} (hW : s.WarmedH U.vm) {w : Cond} (hw : w ∈ gnest) (h : va_Nw w s) : va_Nw w U := by
  rcases List.mem_append.mp hw with hw | hw
  · obtain ⟨q, -, rfl⟩ := List.mem_map.mp hw
    exact va_Nw.warmF hW h
  · obtain ⟨q, -, rfl⟩ := List.mem_map.mp hw
    exact va_Nw.warmM hW h
theorem qn_Lad_53 : Cond.fieldLinkNest "HayThieves$Lad" 53 "HayThieves$Cart" "size" "I" "HayThieves" ∈ gnest := List.mem_of_getElem? (i := 0) (by decide +kernel)
theorem qn_H_78 : Cond.fieldLinkNest "HayThieves" 78 "HayThieves$Cart" "size" "I" "HayThieves" ∈ gnest := List.mem_of_getElem? (i := 1) (by decide +kernel)
theorem qn_Yard_112 : Cond.fieldLinkNest "HayThieves$Yard" 112 "HayThieves$Cart" "size" "I" "HayThieves" ∈ gnest := List.mem_of_getElem? (i := 2) (by decide +kernel)
theorem qn_Yard_117 : Cond.fieldLinkNest "HayThieves$Yard" 117 "HayThieves$Lad" "number" "I" "HayThieves" ∈ gnest := List.mem_of_getElem? (i := 3) (by decide +kernel)
theorem qn_Yard_54 : Cond.fieldLinkNest "HayThieves$Yard" 54 "HayThieves$Lad" "strength" "I" "HayThieves" ∈ gnest := List.mem_of_getElem? (i := 4) (by decide +kernel)
theorem qn_H_52 : Cond.fieldLinkNest "HayThieves" 52 "HayThieves$Lad" "way" "I" "HayThieves" ∈ gnest := List.mem_of_getElem? (i := 5) (by decide +kernel)
theorem qn_Yard_95 : Cond.fieldLinkNest "HayThieves$Yard" 95 "HayThieves$Lad" "way" "I" "HayThieves" ∈ gnest := List.mem_of_getElem? (i := 6) (by decide +kernel)
theorem qn_H_74 : Cond.fieldLinkNest "HayThieves" 74 "HayThieves$Lad" "cart" "LHayThieves$Cart;" "HayThieves" ∈ gnest := List.mem_of_getElem? (i := 7) (by decide +kernel)
theorem qn_Yard_108 : Cond.fieldLinkNest "HayThieves$Yard" 108 "HayThieves$Lad" "cart" "LHayThieves$Cart;" "HayThieves" ∈ gnest := List.mem_of_getElem? (i := 8) (by decide +kernel)
theorem qn_Yard_137 : Cond.fieldLinkNest "HayThieves$Yard" 137 "HayThieves$Lad" "hands" "I" "HayThieves" ∈ gnest := List.mem_of_getElem? (i := 9) (by decide +kernel)
theorem qn_Yard_172 : Cond.fieldLinkNest "HayThieves$Yard" 172 "HayThieves$Lad" "balesLeft" "I" "HayThieves" ∈ gnest := List.mem_of_getElem? (i := 10) (by decide +kernel)
theorem qn_Yard_134 : Cond.fieldLinkNest "HayThieves$Yard" 134 "HayThieves$Lad" "toJoin" "I" "HayThieves" ∈ gnest := List.mem_of_getElem? (i := 11) (by decide +kernel)
theorem qn_Yard_70 : Cond.fieldLinkNest "HayThieves$Yard" 70 "HayThieves$Lad" "asleep" "Z" "HayThieves" ∈ gnest := List.mem_of_getElem? (i := 12) (by decide +kernel)
theorem qn_H_83 : Cond.fieldLinkNest "HayThieves" 83 "HayThieves$Lad" "asleep" "Z" "HayThieves" ∈ gnest := List.mem_of_getElem? (i := 13) (by decide +kernel)
theorem qn_Yard_156 : Cond.fieldLinkNest "HayThieves$Yard" 156 "HayThieves$Lad" "idleInRow" "I" "HayThieves" ∈ gnest := List.mem_of_getElem? (i := 14) (by decide +kernel)
theorem qn_H_125 : Cond.fieldLinkNest "HayThieves" 125 "HayThieves$Lad" "thefts" "I" "HayThieves" ∈ gnest := List.mem_of_getElem? (i := 15) (by decide +kernel)
theorem qn_Yard_213 : Cond.fieldLinkNest "HayThieves$Yard" 213 "HayThieves$Lad" "thefts" "I" "HayThieves" ∈ gnest := List.mem_of_getElem? (i := 16) (by decide +kernel)
theorem qn_Yard_216 : Cond.fieldLinkNest "HayThieves$Yard" 216 "HayThieves$Lad" "theftsFrom" "I" "HayThieves" ∈ gnest := List.mem_of_getElem? (i := 17) (by decide +kernel)
theorem qn_Yard_57 : Cond.fieldLinkNest "HayThieves$Yard" 57 "HayThieves$Load" "bales" "I" "HayThieves" ∈ gnest := List.mem_of_getElem? (i := 18) (by decide +kernel)
theorem qn_Yard_88 : Cond.fieldLinkNest "HayThieves$Yard" 88 "HayThieves$Load" "state" "I" "HayThieves" ∈ gnest := List.mem_of_getElem? (i := 19) (by decide +kernel)
theorem qn_H_139 : Cond.fieldLinkNest "HayThieves" 139 "HayThieves$Load" "state" "I" "HayThieves" ∈ gnest := List.mem_of_getElem? (i := 20) (by decide +kernel)
theorem qn_Yard_60 : Cond.fieldLinkNest "HayThieves$Yard" 60 "HayThieves$Load" "broughtAt" "I" "HayThieves" ∈ gnest := List.mem_of_getElem? (i := 21) (by decide +kernel)
theorem qn_Yard_201 : Cond.fieldLinkNest "HayThieves$Yard" 201 "HayThieves$Load" "doneAt" "I" "HayThieves" ∈ gnest := List.mem_of_getElem? (i := 22) (by decide +kernel)
theorem qn_Yard_189 : Cond.fieldLinkNest "HayThieves$Yard" 189 "HayThieves$Load" "heaps" "I" "HayThieves" ∈ gnest := List.mem_of_getElem? (i := 23) (by decide +kernel)
theorem qn_Yard_219 : Cond.fieldLinkNest "HayThieves$Yard" 219 "HayThieves$Load" "thefts" "I" "HayThieves" ∈ gnest := List.mem_of_getElem? (i := 24) (by decide +kernel)
theorem qn_Yard_198 : Cond.fieldLinkNest "HayThieves$Yard" 198 "HayThieves$Load" "pitched" "I" "HayThieves" ∈ gnest := List.mem_of_getElem? (i := 25) (by decide +kernel)
theorem qn_H_48 : Cond.fieldLinkNest "HayThieves" 48 "HayThieves$Yard" "lads" "[LHayThieves$Lad;" "HayThieves" ∈ gnest := List.mem_of_getElem? (i := 26) (by decide +kernel)
theorem qn_H_111 : Cond.fieldLinkNest "HayThieves" 111 "HayThieves$Yard" "loads" "[LHayThieves$Load;" "HayThieves" ∈ gnest := List.mem_of_getElem? (i := 27) (by decide +kernel)
theorem qn_H_26 : Cond.fieldLinkNest "HayThieves" 26 "HayThieves$Yard" "ladCount" "I" "HayThieves" ∈ gnest := List.mem_of_getElem? (i := 28) (by decide +kernel)
theorem qn_H_64 : Cond.fieldLinkNest "HayThieves" 64 "HayThieves$Yard" "loadCount" "I" "HayThieves" ∈ gnest := List.mem_of_getElem? (i := 29) (by decide +kernel)
theorem qn_H_59 : Cond.fieldLinkNest "HayThieves" 59 "HayThieves$Yard" "forkSize" "I" "HayThieves" ∈ gnest := List.mem_of_getElem? (i := 30) (by decide +kernel)
theorem qn_HModel_120 : Cond.fieldLinkNest "HayThievesModel" 120 "HayThievesModel$State" "minute" "I" "HayThievesModel" ∈ gnest := List.mem_of_getElem? (i := 31) (by decide +kernel)
theorem qn_HModel_188 : Cond.fieldLinkNest "HayThievesModel" 188 "HayThievesModel$State" "thefts" "I" "HayThievesModel" ∈ gnest := List.mem_of_getElem? (i := 32) (by decide +kernel)
theorem qn_HModel_191 : Cond.fieldLinkNest "HayThievesModel" 191 "HayThievesModel$State" "forkings" "I" "HayThievesModel" ∈ gnest := List.mem_of_getElem? (i := 33) (by decide +kernel)
theorem qn_HModel_69 : Cond.fieldLinkNest "HayThievesModel" 69 "HayThievesModel$State" "joinings" "I" "HayThievesModel" ∈ gnest := List.mem_of_getElem? (i := 34) (by decide +kernel)
theorem qn_HModel_194 : Cond.fieldLinkNest "HayThievesModel" 194 "HayThievesModel$State" "pitched" "I" "HayThievesModel" ∈ gnest := List.mem_of_getElem? (i := 35) (by decide +kernel)
theorem qn_HModel_66 : Cond.fieldLinkNest "HayThievesModel" 66 "HayThievesModel$State" "does" "[I" "HayThievesModel" ∈ gnest := List.mem_of_getElem? (i := 36) (by decide +kernel)
theorem qn_HModel_75 : Cond.fieldLinkNest "HayThievesModel" 75 "HayThievesModel$State" "held" "[I" "HayThievesModel" ∈ gnest := List.mem_of_getElem? (i := 37) (by decide +kernel)
theorem qn_HModel_72 : Cond.fieldLinkNest "HayThievesModel" 72 "HayThievesModel$State" "row" "[I" "HayThievesModel" ∈ gnest := List.mem_of_getElem? (i := 38) (by decide +kernel)
theorem qn_HModel_153 : Cond.fieldLinkNest "HayThievesModel" 153 "HayThievesModel$State" "stole" "[I" "HayThievesModel" ∈ gnest := List.mem_of_getElem? (i := 39) (by decide +kernel)
theorem qn_HModel_156 : Cond.fieldLinkNest "HayThievesModel" 156 "HayThievesModel$State" "lost" "[I" "HayThievesModel" ∈ gnest := List.mem_of_getElem? (i := 40) (by decide +kernel)
theorem qn_HModel_159 : Cond.fieldLinkNest "HayThievesModel" 159 "HayThievesModel$State" "idle" "[I" "HayThievesModel" ∈ gnest := List.mem_of_getElem? (i := 41) (by decide +kernel)
theorem qn_HModel_49 : Cond.fieldLinkNest "HayThievesModel" 49 "HayThievesModel$State" "many" "[I" "HayThievesModel" ∈ gnest := List.mem_of_getElem? (i := 42) (by decide +kernel)
theorem qn_HModel_144 : Cond.fieldLinkNest "HayThievesModel" 144 "HayThievesModel$State" "carts" "[I" "HayThievesModel" ∈ gnest := List.mem_of_getElem? (i := 43) (by decide +kernel)
theorem qn_HModel_63 : Cond.fieldLinkNest "HayThievesModel" 63 "HayThievesModel$State" "stands" "[I" "HayThievesModel" ∈ gnest := List.mem_of_getElem? (i := 44) (by decide +kernel)
theorem qn_HModel_113 : Cond.fieldLinkNest "HayThievesModel" 113 "HayThievesModel$State" "heap" "[I" "HayThievesModel" ∈ gnest := List.mem_of_getElem? (i := 45) (by decide +kernel)
theorem qn_HModel_134 : Cond.fieldLinkNest "HayThievesModel" 134 "HayThievesModel$State" "doneAt" "[I" "HayThievesModel" ∈ gnest := List.mem_of_getElem? (i := 46) (by decide +kernel)
theorem qn_HModel_137 : Cond.fieldLinkNest "HayThievesModel" 137 "HayThievesModel$State" "made" "[I" "HayThievesModel" ∈ gnest := List.mem_of_getElem? (i := 47) (by decide +kernel)
theorem qn_HModel_169 : Cond.fieldLinkNest "HayThievesModel" 169 "HayThievesModel$State" "stolen" "[I" "HayThievesModel" ∈ gnest := List.mem_of_getElem? (i := 48) (by decide +kernel)
theorem qn_HModel_172 : Cond.fieldLinkNest "HayThievesModel" 172 "HayThievesModel$State" "out" "[I" "HayThievesModel" ∈ gnest := List.mem_of_getElem? (i := 49) (by decide +kernel)
theorem qn_HModel_52 : Cond.fieldLinkNest "HayThievesModel" 52 "HayThievesModel$State" "bales" "[I" "HayThievesModel" ∈ gnest := List.mem_of_getElem? (i := 50) (by decide +kernel)
theorem qn_HModel_88 : Cond.fieldLinkNest "HayThievesModel" 88 "HayThievesModel$State" "left" "[I" "HayThievesModel" ∈ gnest := List.mem_of_getElem? (i := 51) (by decide +kernel)
theorem qn_HModel_150 : Cond.fieldLinkNest "HayThievesModel" 150 "HayThievesModel$State" "of" "[I" "HayThievesModel" ∈ gnest := List.mem_of_getElem? (i := 52) (by decide +kernel)
theorem qm_Lad_20 : Cond.methodLinkNest "HayThieves$Lad" 20 { cls := "HayThieves$Cart", name := "<init>", desc := "()V" } "HayThieves" ∈ gnest := List.mem_of_getElem? (i := 53) (by decide +kernel)
theorem qm_Yard_53 : Cond.methodLinkNest "HayThieves$Yard" 53 { cls := "HayThieves$Load", name := "<init>", desc := "()V" } "HayThieves" ∈ gnest := List.mem_of_getElem? (i := 54) (by decide +kernel)
theorem qm_HModel_28 : Cond.methodLinkNest "HayThievesModel" 28 { cls := "HayThievesModel$State", name := "<init>", desc := "()V" } "HayThievesModel" ∈ gnest := List.mem_of_getElem? (i := 55) (by decide +kernel)
end
section
/-! THE WORLD: the class's and the reference's cells by keys (module y, kind t, number i), each cell's slots by j.
y 0, 1: the two yards (t 0 the yard, 1 lads, 2 carts, 3 the carts' rows, 4 loads, 5 heapBales, 6 heapDone, 7 the row of lads, 8 the row of loads);
y 2: 10 HayThieves, 11 the model, 12 strength, 13 way, 14 size, 15 came, 16 the law's out; y 3, 4: the model's states (20 the state, 20 + f the row of field f). -/
abbrev gE : Type := va_G × (Nat → ClassId) × (Nat → Nat → Nat → Nat) × Nat
abbrev gI : Type := Nat → Nat → Nat → Nat → Int32
abbrev gY : Type := Nat → Nat → Nat → Int32
def gA (E : gE) (y t i : Nat) : Nat := E.2.2.1 y t i
def gN (E : gE) : Nat := E.2.2.2
def gF (E : gE) : Nat → Prop := fun q => gN E ≤ q
def u3 (Y : gY) (t i j : Nat) (x : Int32) : gY := fun t' i' j' => if t' = t ∧ i' = i ∧ j' = j then x else Y t' i' j'
def gset (I : gI) (y : Nat) (Y : gY) : gI := fun y' => if y' = y then Y else I y'
/-- one slot changes -/
def gU (I : gI) (y t i j : Nat) (x : Int32) : gI := gset I y (u3 (I y) t i j x)
/-- a row's contents as a whole -/
def urow (Y : gY) (t i : Nat) (g : Nat → Int32) : gY := fun t' i' j' => if t' = t ∧ i' = i then g j' else Y t' i' j'
def gR (I : gI) (y t i : Nat) (g : Nat → Int32) : gI := gset I y (urow (I y) t i g)
theorem gset_at (I : gI) (y : Nat) (Y : gY) : gset I y Y y = Y := by simp [gset]
theorem gset_ne (I : gI) {y y' : Nat} (Y : gY) (h : y' ≠ y) : gset I y Y y' = I y' := by simp [gset, h]
theorem gset_gset (I : gI) (y : Nat) (Y Z : gY) : gset (gset I y Y) y Z = gset I y Z := by
  funext q
  by_cases h : q = y <;> simp [gset, h]
theorem gset_self (I : gI) (y : Nat) : gset I y (I y) = I := by
  funext q
  by_cases h : q = y <;> simp [gset, h]
def sh (t : Nat) : Nat ⊕ (Nat × Nat) := match t with
  | 0 => .inl 3
  | 1 => .inl 1
  | 2 => .inl 0
  | 3 => .inr (0, 8)
  | 4 => .inl 2
  | 5 => .inr (0, 320)
  | 6 => .inr (1, 320)
  | 7 => .inr (2, 6)
  | 8 => .inr (3, 10)
  | 10 => .inl 4
  | 11 => .inl 6
  | 12 => .inr (0, 6)
  | 13 => .inr (0, 6)
  | 14 => .inr (0, 10)
  | 15 => .inr (0, 10)
  | 16 => .inr (4, 1)
  | 20 => .inl 5
  | 25 => .inr (0, 6)
  | 26 => .inr (0, 6)
  | 27 => .inr (0, 6)
  | 28 => .inr (0, 6)
  | 29 => .inr (0, 6)
  | 30 => .inr (0, 6)
  | 31 => .inr (0, 6)
  | 32 => .inr (0, 48)
  | 33 => .inr (0, 10)
  | 34 => .inr (0, 10)
  | 35 => .inr (0, 10)
  | 36 => .inr (0, 10)
  | 37 => .inr (0, 10)
  | 38 => .inr (0, 10)
  | _ => .inr (0, 600)
def gv (y t i : Nat) : Bool :=
  (decide (y < 2) && ((decide (i = 0) && (decide (t = 0) || decide (t = 5) || decide (t = 6) || decide (t = 7) || decide (t = 8))) || ((decide (t = 1) || decide (t = 2) || decide (t = 3)) && decide (i < 6)) || (decide (t = 4) && decide (i < 10))))
  || (decide (y = 2) && decide (i = 0) && decide (10 ≤ t) && decide (t ≤ 16))
  || ((decide (y = 3) || decide (y = 4)) && decide (i = 0) && (decide (t = 20) || (decide (25 ≤ t) && decide (t ≤ 38)) || (decide (40 ≤ t) && decide (t ≤ 45))))
/-- is it a slot of a whole number? -/
def gk (t j : Nat) : Bool := match t with
  | 0 => decide (4 ≤ j)
  | 1 => decide (j ≠ 3)
  | 2 => decide (j ≠ 0)
  | 7 => false
  | 8 => false
  | 10 => false
  | 11 => decide (j = 0) || decide (j = 1) || decide (j = 4) || decide (j = 7)
  | 16 => false
  | 20 => decide (j ≤ 4) || decide (j = 19)
  | _ => true
/-- where a slot of a reference leads -/
def grf (E : gE) (I : gI) (y t i j : Nat) : Nat := match t with
  | 0 => if j = 0 then gA E y 7 0 else if j = 1 then gA E y 8 0 else if j = 2 then gA E y 5 0 else gA E y 6 0
  | 1 => gA E y 2 (I y 1 i 3).toNatClampNeg
  | 2 => gA E y 3 i
  | 7 => gA E y 1 j
  | 8 => gA E y 4 j
  | 10 => if j = 0 then gA E 0 0 0 else gA E 1 0 0
  | 11 => if j = 2 then gA E 2 12 0 else if j = 3 then gA E 2 13 0 else if j = 5 then gA E 2 14 0 else if j = 6 then gA E 2 15 0 else if j = 8 then gA E 3 20 0 else gA E 4 20 0
  | _ => gA E y (20 + j) 0
def sv (E : gE) (J : Int64) (I : gI) (y t i j : Nat) : Value := if gk t j = true then .int (I y t i j) else if t = 16 then .long J else .ref (grf E I y t i j)
def gat (E : gE) (sp : Nat ⊕ (Nat × Nat)) (a : Nat) (H : Heap) (V : Nat → Value) : Prop := match sp with
  | .inl ci => ∃ r : vw_C, vwCl[ci]? = some r ∧ t_OB a (E.1.1 ci) r.2.2 (E.1.2 ci) H V
  | .inr kn => H[a]? = some (arrV (E.2.1 kn.1) kn.2 V)
def GW (E : gE) (J : Int64) (I : gI) (H : Heap) : Prop := ∀ y t i, gv y t i = true → gat E (sh t) (gA E y t i) H (sv E J I y t i)
def gtys (E : gE) : List (ClassId × FieldType) := [(E.2.1 0, .int), (E.2.1 1, .boolean), (E.2.1 2, .object "HayThieves$Lad"), (E.2.1 3, .object "HayThieves$Load"), (E.2.1 4, .long)]
/-- the addresses are apart, and behind the start -/
def gok (E : gE) : Prop := (∀ y t i y' t' i', gv y t i = true → gv y' t' i' = true → gA E y t i = gA E y' t' i' → y = y' ∧ t = t' ∧ i = i') ∧ ∀ y t i, gv y t i = true → gN E ≤ gA E y t i
/-- the fork sizes that both try -/
def gsz (j : Nat) : Int32 := ([4, 8, 16, 32, 60] : List Int32).getD j 0
def gsta (E : gE) (C n : String) (U : State) : Prop := ∃ t, va_Z C n "[I" (.ref t) (gF E) U U.heap ∧ va_T .int t 5 (fun j => .int (gsz j)) (gF E) U U.heap
/-- the texts of the class's exceptions -/
def gtx : List (Nat × String) := [(21, "strength is not 1 to 9"), (32, "there are 6 lads"), (160, "there is no such lad"), (45, "way is not 0 to 2"), (57, "size is not 4 to 60"), (62, "bales is not 1 to 60"), (67, "there were 10 loads"), (72, "both lads are the same"), (87, "this lad does not sleep"), (93, "what is not 0 to 8"), (98, "there is no such place"), (162, "there is no such load"), (109, "what is not 0 to 6"), (118, "what is not 0 to 12"), (164, "minutes is below 1 or too many"), (142, "what is not 3 to 11")]
def gT (E : gE) (U : State) : Prop := gsta E "HayThieves" "ADVISED_FORKS" U ∧ gsta E "HayThievesModel" "SIZES" U ∧ vx_Zq Bundle.tN "UNASSIGNED_STACK" Bundle.steD (gF E) U U.heap ∧ vx_Zq Bundle.tN "SUPPRESSED_SENTINEL" Bundle.listD (gF E) U U.heap ∧ (∀ q ∈ gtx, ∃ sa, vk_R "HayThieves" q.1 q.2 sa U)
/-- what does not change: classes, links, addresses, statics -/
def gS (E : gE) (U : State) : Prop := va_K E.1 vwCl (gtys E) U ∧ (∀ w ∈ gnest, va_Nw w U) ∧ gok E ∧ gN E ≤ U.heap.size ∧ gT E U
theorem gsta.moved {E : gE} {C n : String} {u U : State} (h : gsta E C n u) (hW : u.WarmedH U.vm) (hq : ∀ q, q < u.heap.size → ¬ gF E q → U.heap[q]? = u.heap[q]?) : gsta E C n U := by
  obtain ⟨t, h1, h2⟩ := h
  exact ⟨t, va_Z.kept (va_Z.moved hW.alike h1) hq, va_T.kept (va_T.moved hW.alike h2) hq⟩
theorem gS.moved {E : gE} {u U : State} (h : gS E u) (hW : u.WarmedH U.vm) (hz : u.heap.size ≤ U.heap.size) (hq : ∀ q, q < u.heap.size → ¬ gF E q → U.heap[q]? = u.heap[q]?) : gS E U := by
  obtain ⟨h1, h2, h3, h4, h5, h6, h7, h8, h9⟩ := h
  exact ⟨va_K.moved hW.alike h1, fun w hw => gnest_warm hW hw (h2 w hw), h3, Nat.le_trans h4 hz, h5.moved hW hq, h6.moved hW hq, vx_Zq.kept (vx_Zq.moved hW.alike h7) hq, vx_Zq.kept (vx_Zq.moved hW.alike h8) hq, fun q hq' => by
    obtain ⟨sa, hs⟩ := h9 q hq'
    exact ⟨sa, vk_R.warm hW hs⟩⟩
theorem gsta.blind {E : gE} {C n : String} {U : State} (g : JFrame) (mk : MethodId) (a : Array Value) (h : gsta E C n U) : gsta E C n (U.calling g mk a) := by
  obtain ⟨t, h1, h2⟩ := h
  exact ⟨t, va_Z.moved (u := U) (U := U.calling g mk a) (Vm.Alike.refl U.vm) h1, va_T.moved (u := U) (U := U.calling g mk a) (Vm.Alike.refl U.vm) h2⟩
theorem gnest_ot {w : Cond} (hw : w ∈ gnest) : w.onTables = true := by
  rcases List.mem_append.mp hw with hw | hw
  · obtain ⟨q, -, rfl⟩ := List.mem_map.mp hw
    rfl
  · obtain ⟨q, -, rfl⟩ := List.mem_map.mp hw
    rfl
/-- .. the start of a call: only the frames have changed -/
theorem gS.blind {E : gE} {U : State} (g : JFrame) (mk : MethodId) (a : Array Value) (h : gS E U) : gS E (U.calling g mk a) := by
  obtain ⟨h1, h2, h3, h4, h5, h6, h7, h8, h9⟩ := h
  exact ⟨va_K.moved (u := U) (U := U.calling g mk a) (Vm.Alike.refl U.vm) h1, fun w hw => va_Nw.same (u := U) (U := U.calling g mk a) (gnest_ot hw) rfl (h2 w hw), h3, h4, gsta.blind g mk a h5, gsta.blind g mk a h6, vx_Zq.moved (u := U) (U := U.calling g mk a) (Vm.Alike.refl U.vm) h7, vx_Zq.moved (u := U) (U := U.calling g mk a) (Vm.Alike.refl U.vm) h8, fun q hq' => by
    obtain ⟨sa, hs⟩ := h9 q hq'
    exact ⟨sa, vk_R.same rfl hs⟩⟩
/-- a method's start: the world I, the out J -/
def gP (E : gE) (J : Int64) (I : gI) (U : State) : Prop := GW E J I U.heap ∧ gS E U
/-- a cell's slot changes; the others stay -/
theorem GW.put {E : gE} {J : Int64} {I I' : gI} {H H1 : Heap} (hG : GW E J I H) (hok : gok E) {y t i : Nat} (hv : gv y t i = true) (h1 : gat E (sh t) (gA E y t i) H1 (sv E J I' y t i)) (hq : ∀ q, q ≠ gA E y t i → H1[q]? = H[q]?)
    (hI : ∀ y' t' i' j', ¬ (y' = y ∧ t' = t ∧ i' = i) → sv E J I' y' t' i' j' = sv E J I y' t' i' j') : GW E J I' H1 := by
  intro y' t' i' hv'
  by_cases hk : y' = y ∧ t' = t ∧ i' = i
  · obtain ⟨rfl, rfl, rfl⟩ := hk
    exact h1
  · have hne : gA E y' t' i' ≠ gA E y t i := fun q => hk (hok.1 _ _ _ _ _ _ hv' hv q)
    have h0 := hG y' t' i' hv'
    have hV : sv E J I' y' t' i' = sv E J I y' t' i' := funext fun j => hI y' t' i' j hk
    rw [hV]
    unfold gat at h0 ⊢
    cases hsh : sh t' with
    | inl ci =>
      rw [hsh] at h0
      obtain ⟨r, r1, r2⟩ := h0
      exact ⟨r, r1, r2.kept (hq _ hne)⟩
    | inr kn =>
      rw [hsh] at h0
      exact (hq _ hne).trans h0
end
section
/-! THE ROWS: an instruction over the world. -/
/-- what a method's walk stands on -/
def kx (E : gE) (p : Program) (m : MethodId) (c : Code) (cc : ByteArray) (own : String) (args : Array Value) (s : State) : Prop := p.tables.exec = Jvm.exec ∧ c.code = cc ∧ (∀ w ∈ lw_all, w.before args s = true) ∧ s.vm.findClass own = some m.cls ∧ gS E s
theorem gS.K {E : gE} {s : State} (h : gS E s) : va_K E.1 vwCl (gtys E) s := h.1
theorem gS.ok {E : gE} {s : State} (h : gS E s) : gok E := h.2.2.1
theorem gS.nest {E : gE} {s : State} (h : gS E s) {w : Cond} (hw : w ∈ gnest) {args : Array Value} : w.before args s = true := va_Nw.use (gnest_ot hw) (h.2.1 w hw)
theorem gtys_at {E : gE} {s : State} (h : gS E s) {k : Nat} {ty : FieldType} (hk : (gtys E)[k]? = some (E.2.1 k, ty)) : ArrOfT s (E.2.1 k) ty := (h.K.2 k _ hk).1
theorem sv_int {E : gE} {J : Int64} {I : gI} {y t i j : Nat} (h : gk t j = true) : sv E J I y t i j = .int (I y t i j) := by simp [sv, h]
theorem gA_in {E : gE} {s : State} (h : gS E s) {y t i : Nat} (hv : gv y t i = true) : gF E (gA E y t i) := h.ok.2 y t i hv
/-- another world whose slots of references are the same, and whose slots differ at one place alone -/
theorem sv_u3 {E : gE} {J : Int64} {I : gI} {y t i j : Nat} {x : Int32} (hk : gk t j = true) (hr : ∀ y' t' i' j', gk t' j' = false → grf E (gset I y (u3 (I y) t i j x)) y' t' i' j' = grf E I y' t' i' j') (y' t' i' j' : Nat) : sv E J (gset I y (u3 (I y) t i j x)) y' t' i' j' = if y' = y ∧ t' = t ∧ i' = i ∧ j' = j then .int x else sv E J I y' t' i' j' := by
  by_cases h : y' = y ∧ t' = t ∧ i' = i ∧ j' = j
  · obtain ⟨rfl, rfl, rfl, rfl⟩ := h
    rw [if_pos ⟨rfl, rfl, rfl, rfl⟩, sv_int hk, gset_at]
    simp [u3]
  · rw [if_neg h]
    by_cases hk' : gk t' j' = true
    · rw [sv_int hk', sv_int hk']
      congr 1
      by_cases hy : y' = y
      · subst hy
        rw [gset_at]
        unfold u3
        rw [if_neg]
        intro q
        exact h ⟨rfl, q⟩
      · rw [gset_ne I _ hy]
    · have hk2 : gk t' j' = false := by simpa using hk'
      unfold sv
      rw [hk2, hr y' t' i' j' hk2]
      simp
/-- a slot of a whole number leads nowhere: what the references are stays, but for a lad's cart -/
theorem grf_u3 {E : gE} {I : gI} {y t i j : Nat} {x : Int32} (h : ¬ (t = 1 ∧ j = 3)) (y' t' i' j' : Nat) : grf E (gset I y (u3 (I y) t i j x)) y' t' i' j' = grf E I y' t' i' j' := by
  unfold grf
  split <;> try rfl
  have e : gset I y (u3 (I y) t i j x) y' 1 i' 3 = I y' 1 i' 3 := by
    by_cases hy : y' = y
    · subst hy
      rw [gset_at]
      unfold u3
      rw [if_neg]
      intro q
      exact h ⟨q.1.symm, q.2.2.symm⟩
    · rw [gset_ne I _ hy]
  rw [e]
theorem gk_not13 {t j : Nat} (h : gk t j = true) : ¬ (t = 1 ∧ j = 3) := by
  rintro ⟨rfl, rfl⟩
  exact absurd h (by decide)
section GR
variable {p : Program} {l : Launch} {e : Env} {R : Room} {s : State} {m : MethodId} {args : Array Value} {below : List Frame} {meth : Method} {c : Code} {H : Heap} {locs : List Loc} {cells slots : Nat} {Q : State → Prop}
variable {cc : ByteArray} {pc : Nat} {ls : Array Slot} {rest : List Value} {E : gE} {J : Int64} {I : gI} {own : String} {H0 : Heap}
theorem g_get {C : String} {T : u_T} {N ci index : Nat} (K : kx E p m c cc own args s) (hG : GW E J I H) {y t i : Nat} (hv : gv y t i = true) (hs : sh t = .inl ci) (hc : vwCl[ci]? = some (C, T, N)) (hin : ∀ w ∈ u_ws C T N, w ∈ lw_all) (k : Nat) (hk : k < N) (hlink : Cond.fieldLink own index (T k).1 (T k).2.1 (T k).2.2.1 ∈ lw_all) {v : Value} (hV : sv E J I y t i k = v) (hdg : decode cc pc = .ok (.getfield index, 3))
    (kk : W p l e R s m args below meth c H locs cells slots Q (F0 m (pc + 3) ls (v :: rest))) : W p l e R s m args below meth c H locs cells slots Q (F0 m pc ls (.ref (gA E y t i) :: rest)) := by
  obtain ⟨hx, hb, hts, hown, hSt⟩ := K
  have h0 := hG y t i hv
  rw [hs] at h0
  obtain ⟨r, h1, cell, q1, q2, q3, q4⟩ := h0
  have hr : r = (C, T, N) := Option.some.inj (h1.symm.trans hc)
  subst hr
  obtain ⟨hS, hfc, kC, hkC, hkind⟩ := hSt.K.1 ci _ hc
  obtain ⟨cf, kf, fi, f, hi, hsl⟩ := hS k hk
  refine W.getf hx hb hown (hts _ hlink) hi (u_facts hfc hkC (u_lays hts hin hk) hi).1 q1 (by rw [q3]; exact fun h => by cases h) (v := v) ?_ rfl rfl hdg kk
  rw [hsl, q4 k hk, hV]
theorem g_getN {host C : String} {T : u_T} {N ci index : Nat} (K : kx E p m c cc own args s) (hG : GW E J I H) {y t i : Nat} (hv : gv y t i = true) (hs : sh t = .inl ci) (hc : vwCl[ci]? = some (C, T, N)) (hin : ∀ w ∈ u_ws C T N, w ∈ lw_all) (k : Nat) (hk : k < N) (hlink : Cond.fieldLinkNest own index (T k).1 (T k).2.1 (T k).2.2.1 host ∈ gnest) {v : Value} (hV : sv E J I y t i k = v) (hdg : decode cc pc = .ok (.getfield index, 3))
    (kk : W p l e R s m args below meth c H locs cells slots Q (F0 m (pc + 3) ls (v :: rest))) : W p l e R s m args below meth c H locs cells slots Q (F0 m pc ls (.ref (gA E y t i) :: rest)) := by
  obtain ⟨hx, hb, hts, hown, hSt⟩ := K
  have h0 := hG y t i hv
  rw [hs] at h0
  obtain ⟨r, h1, cell, q1, q2, q3, q4⟩ := h0
  have hr : r = (C, T, N) := Option.some.inj (h1.symm.trans hc)
  subst hr
  obtain ⟨hS, hfc, kC, hkC, hkind⟩ := hSt.K.1 ci _ hc
  obtain ⟨cf, kf, fi, f, hi, hsl⟩ := hS k hk
  refine va_Wgetf hx hb hown (hSt.nest hlink) hi (u_facts hfc hkC (u_lays hts hin hk) hi).1 q1 (by rw [q3]; exact fun h => by cases h) (v := v) ?_ rfl rfl hdg kk
  rw [hsl, q4 k hk, hV]
/-- behind a store into an object: the world with that slot changed -/
theorem g_objput {E : gE} {s : State} {C : String} {T : u_T} {N ci : Nat} (hSt : gS E s) (hts : ∀ w ∈ lw_all, w.before args s = true) (hc : vwCl[ci]? = some (C, T, N)) (hin : ∀ w ∈ u_ws C T N, w ∈ lw_all) (ty0 : Nat → FieldType) (hty : ∀ k, k < N → parseFieldDescriptor (T k).2.2.1 = some (ty0 k)) (hnm : ∀ a, a < N → ∀ b, b < N → a ≠ b → (T a).2.1 ≠ (T b).2.1)
    (hG : GW E J I H) {y t i : Nat} (hv : gv y t i = true) (hs : sh t = .inl ci) {k : Nat} (hk : k < N) {x : Value} {I' : gI} (hI : ∀ y' t' i' j', sv E J I' y' t' i' j' = if y' = y ∧ t' = t ∧ i' = i ∧ j' = k then x else sv E J I y' t' i' j') {cell : Cell} (q1 : H[gA E y t i]? = some cell) {H1 : Heap} (e1 : H1[gA E y t i]? = some (cell.setSlot (E.1.2 ci k) x)) (e3 : ∀ q, q ≠ gA E y t i → H1[q]? = H[q]?) : GW E J I' H1 := by
  have hap := va_apart (own := C) hts hin ty0 hty hnm hSt.K hc
  refine hG.put hSt.ok hv ?_ e3 (fun y' t' i' j' hn => by rw [hI, if_neg]; exact fun q => hn ⟨q.1, q.2.1, q.2.2.1⟩)
  have h0 := hG y t i hv
  rw [hs] at h0 ⊢
  obtain ⟨r, h1, cell2, q1', q2, q3, q4⟩ := h0
  have hr : r = (C, T, N) := Option.some.inj (h1.symm.trans hc)
  subst hr
  cases q1.symm.trans q1'
  refine ⟨_, hc, t_OB.to (V := updV (sv E J I y t i) k x) ⟨_, e1, q2, q3, t_set q4 hap hk x⟩ (fun j _ => ?_)⟩
  rw [hI]
  unfold updV
  by_cases hj : j = k
  · simp [hj]
  · simp [hj]
theorem g_putV {C : String} {T : u_T} {N ci index : Nat} (K : kx E p m c cc own args s) (ty0 : Nat → FieldType) (hty : ∀ k, k < N → parseFieldDescriptor (T k).2.2.1 = some (ty0 k)) (hnm : ∀ a, a < N → ∀ b, b < N → a ≠ b → (T a).2.1 ≠ (T b).2.1) (hG : GW E J I H) (hS0 : va_S (gF E) H0 H locs) {y t i : Nat} (hv : gv y t i = true) (hs : sh t = .inl ci) (hc : vwCl[ci]? = some (C, T, N)) (hin : ∀ w ∈ u_ws C T N, w ∈ lw_all) (k : Nat) (hk : k < N) (hlink : Cond.fieldLink own index (T k).1 (T k).2.1 (T k).2.2.1 ∈ lw_all) (hfin : (T k).2.2.2 = false) {ty : FieldType} {x : Value} (hd : parseFieldDescriptor (T k).2.2.1 = some ty) (hn : narrow ty x = x) (hfit : fits ty x = true) {I' : gI} (hI : ∀ y' t' i' j', sv E J I' y' t' i' j' = if y' = y ∧ t' = t ∧ i' = i ∧ j' = k then x else sv E J I y' t' i' j') (hdg : decode cc pc = .ok (.putfield index, 3))
    (kk : ∀ (H1 : Heap) (locs1 : List Loc), GW E J I' H1 → va_S (gF E) H0 H1 locs1 → W p l e R s m args below meth c H1 locs1 cells slots Q (F0 m (pc + 3) ls rest)) : W p l e R s m args below meth c H locs cells slots Q (F0 m pc ls (x :: .ref (gA E y t i) :: rest)) := by
  obtain ⟨hx, hb, hts, hown, hSt⟩ := K
  have h0 := hG y t i hv
  rw [hs] at h0
  obtain ⟨r, h1, cell, q1, q2, q3, q4⟩ := h0
  have hr : r = (C, T, N) := Option.some.inj (h1.symm.trans hc)
  subst hr
  obtain ⟨hS, hfc, kC, hkC, hkind⟩ := hSt.K.1 ci _ hc
  obtain ⟨cf, kf, fi, f, hi, hsl⟩ := hS k hk
  have hlay := hts _ (hin _ (u_in_lay hk))
  unfold u_lay at hlay
  rw [if_neg (by rw [hfin]; decide)] at hlay
  have hst := (u_facts hfc hkC (u_lays hts hin hk) hi).1
  have h6 := u_store hfc hkC hkind hlay hi hd hn hfit
  refine W.putK hx hb (f := f) ⟨hown, hts _ hlink, ⟨_, _, _, hi⟩, hst⟩ (by rw [q2]; exact h6) q1 q3 (by rw [hsl]; exact k2_hasslot (q4 k hk)) rfl rfl hdg fun H' e1 e2 e3 => ?_
  rw [hsl] at e1 ⊢
  exact kk H' _ (g_objput hSt hts hc hin ty0 hty hnm hG hv hs hk hI q1 e1 e3) (hS0.put e2 e3 (gA_in hSt hv))
theorem g_putVN {host C : String} {T : u_T} {N ci index : Nat} (K : kx E p m c cc own args s) (ty0 : Nat → FieldType) (hty : ∀ k, k < N → parseFieldDescriptor (T k).2.2.1 = some (ty0 k)) (hnm : ∀ a, a < N → ∀ b, b < N → a ≠ b → (T a).2.1 ≠ (T b).2.1) (hG : GW E J I H) (hS0 : va_S (gF E) H0 H locs) {y t i : Nat} (hv : gv y t i = true) (hs : sh t = .inl ci) (hc : vwCl[ci]? = some (C, T, N)) (hin : ∀ w ∈ u_ws C T N, w ∈ lw_all) (k : Nat) (hk : k < N) (hlink : Cond.fieldLinkNest own index (T k).1 (T k).2.1 (T k).2.2.1 host ∈ gnest) (hfin : (T k).2.2.2 = false) {ty : FieldType} {x : Value} (hd : parseFieldDescriptor (T k).2.2.1 = some ty) (hn : narrow ty x = x) (hfit : fits ty x = true) {I' : gI} (hI : ∀ y' t' i' j', sv E J I' y' t' i' j' = if y' = y ∧ t' = t ∧ i' = i ∧ j' = k then x else sv E J I y' t' i' j') (hdg : decode cc pc = .ok (.putfield index, 3))
    (kk : ∀ (H1 : Heap) (locs1 : List Loc), GW E J I' H1 → va_S (gF E) H0 H1 locs1 → W p l e R s m args below meth c H1 locs1 cells slots Q (F0 m (pc + 3) ls rest)) : W p l e R s m args below meth c H locs cells slots Q (F0 m pc ls (x :: .ref (gA E y t i) :: rest)) := by
  obtain ⟨hx, hb, hts, hown, hSt⟩ := K
  have h0 := hG y t i hv
  rw [hs] at h0
  obtain ⟨r, h1, cell, q1, q2, q3, q4⟩ := h0
  have hr : r = (C, T, N) := Option.some.inj (h1.symm.trans hc)
  subst hr
  obtain ⟨hS, hfc, kC, hkC, hkind⟩ := hSt.K.1 ci _ hc
  obtain ⟨cf, kf, fi, f, hi, hsl⟩ := hS k hk
  have hlay := hts _ (hin _ (u_in_lay hk))
  unfold u_lay at hlay
  rw [if_neg (by rw [hfin]; decide)] at hlay
  have hst := (u_facts hfc hkC (u_lays hts hin hk) hi).1
  have h6 := u_store hfc hkC hkind hlay hi hd hn hfit
  refine va_WputK hx hb (f := f) hown (hSt.nest hlink) hi hst (by rw [q2]; exact h6) q1 q3 (by rw [hsl]; exact k2_hasslot (q4 k hk)) rfl rfl hdg fun H' e1 e2 e3 => ?_
  rw [hsl] at e1 ⊢
  exact kk H' _ (g_objput hSt hts hc hin ty0 hty hnm hG hv hs hk hI q1 e1 e3) (hS0.put e2 e3 (gA_in hSt hv))
/-- loads from rows -/
theorem g_iald (K : kx E p m c cc own args s) (hG : GW E J I H) {y t i n : Nat} (hv : gv y t i = true) (hs : sh t = .inr (0, n)) (hk : ∀ j, gk t j = true) {x : Int32} (hin : vp_in x n) (hdg : decode cc pc = .ok (.iaload, 1))
    (kk : W p l e R s m args below meth c H locs cells slots Q (F0 m (pc + 1) ls (.int (I y t i x.toNatClampNeg) :: rest))) : W p l e R s m args below meth c H locs cells slots Q (F0 m pc ls (.int x :: .ref (gA E y t i) :: rest)) := by
  have hlt : x.toNatClampNeg < n := Nat.not_le.mp fun q => hin (Or.inr q)
  have h0 := hG y t i hv
  rw [hs] at h0
  exact W.iald (v := .int (I y t i x.toNatClampNeg)) K.1 K.2.1 h0 (gtys_at K.2.2.2.2 (k := 0) rfl n _) (fun q => by cases q) (by show ¬ (x < 0 ∨ (arrV _ _ _).slots.size ≤ _); rw [arrV_size]; exact hin) (by show (arrV _ _ _).slots[_]? = _; rw [arrV_read _ _ hlt, sv_int (hk _)]) rfl rfl hdg kk
theorem g_zald (K : kx E p m c cc own args s) (hG : GW E J I H) {y t i n : Nat} (hv : gv y t i = true) (hs : sh t = .inr (1, n)) (hk : ∀ j, gk t j = true) {x : Int32} (hin : vp_in x n) (hdg : decode cc pc = .ok (.baload, 1))
    (kk : W p l e R s m args below meth c H locs cells slots Q (F0 m (pc + 1) ls (.int (I y t i x.toNatClampNeg) :: rest))) : W p l e R s m args below meth c H locs cells slots Q (F0 m pc ls (.int x :: .ref (gA E y t i) :: rest)) := by
  have hlt : x.toNatClampNeg < n := Nat.not_le.mp fun q => hin (Or.inr q)
  have h0 := hG y t i hv
  rw [hs] at h0
  exact W.zald (v := .int (I y t i x.toNatClampNeg)) K.1 K.2.1 h0 (gtys_at K.2.2.2.2 (k := 1) rfl n _) (fun q => by cases q) (by show ¬ (x < 0 ∨ (arrV _ _ _).slots.size ≤ _); rw [arrV_size]; exact hin) (by show (arrV _ _ _).slots[_]? = _; rw [arrV_read _ _ hlt, sv_int (hk _)]) rfl rfl hdg kk
theorem g_lads (K : kx E p m c cc own args s) (hG : GW E J I H) {y : Nat} (hv : gv y 7 0 = true) {x : Int32} (hin : vp_in x 6) (hdg : decode cc pc = .ok (.aaload, 1))
    (kk : W p l e R s m args below meth c H locs cells slots Q (F0 m (pc + 1) ls (.ref (gA E y 1 x.toNatClampNeg) :: rest))) : W p l e R s m args below meth c H locs cells slots Q (F0 m pc ls (.int x :: .ref (gA E y 7 0) :: rest)) := by
  have hlt : x.toNatClampNeg < 6 := Nat.not_le.mp fun q => hin (Or.inr q)
  have h0 := hG y 7 0 hv
  exact W.aald (v := .ref (gA E y 1 x.toNatClampNeg)) (ty := .object "HayThieves$Lad") K.1 K.2.1 h0 (gtys_at K.2.2.2.2 (k := 2) rfl 6 _) rfl (fun q => by cases q) (by show ¬ (x < 0 ∨ (arrV _ _ _).slots.size ≤ _); rw [arrV_size]; exact hin) (by show (arrV _ _ _).slots[_]? = _; rw [arrV_read _ _ hlt]; rfl) rfl rfl hdg kk
theorem g_loads (K : kx E p m c cc own args s) (hG : GW E J I H) {y : Nat} (hv : gv y 8 0 = true) {x : Int32} (hin : vp_in x 10) (hdg : decode cc pc = .ok (.aaload, 1))
    (kk : W p l e R s m args below meth c H locs cells slots Q (F0 m (pc + 1) ls (.ref (gA E y 4 x.toNatClampNeg) :: rest))) : W p l e R s m args below meth c H locs cells slots Q (F0 m pc ls (.int x :: .ref (gA E y 8 0) :: rest)) := by
  have hlt : x.toNatClampNeg < 10 := Nat.not_le.mp fun q => hin (Or.inr q)
  have h0 := hG y 8 0 hv
  exact W.aald (v := .ref (gA E y 4 x.toNatClampNeg)) (ty := .object "HayThieves$Load") K.1 K.2.1 h0 (gtys_at K.2.2.2.2 (k := 3) rfl 10 _) rfl (fun q => by cases q) (by show ¬ (x < 0 ∨ (arrV _ _ _).slots.size ≤ _); rw [arrV_size]; exact hin) (by show (arrV _ _ _).slots[_]? = _; rw [arrV_read _ _ hlt]; rfl) rfl rfl hdg kk
/-- stores into rows -/
theorem g_rowput {n a : Nat} (hSt : gS E s) (hG : GW E J I H) {y t i : Nat} (hv : gv y t i = true) (hs : sh t = .inr (a, n)) (hk : ∀ j, gk t j = true) (hr : ∀ j, ¬ (t = 1 ∧ j = 3)) {k : Nat} {x : Int32} {H1 : Heap} (e1 : H1[gA E y t i]? = some ((arrV (E.2.1 a) n (sv E J I y t i)).setSlot k (.int x))) (e3 : ∀ q, q ≠ gA E y t i → H1[q]? = H[q]?) : GW E J (gset I y (u3 (I y) t i k x)) H1 := by
  have hI := sv_u3 (E := E) (J := J) (I := I) (y := y) (t := t) (i := i) (j := k) (x := x) (hk k) (fun y' t' i' j' _ => grf_u3 (hr k) y' t' i' j')
  refine hG.put hSt.ok hv ?_ e3 (fun y' t' i' j' hn => by rw [hI, if_neg]; exact fun q => hn ⟨q.1, q.2.1, q.2.2.1⟩)
  rw [hs]
  show H1[gA E y t i]? = some (arrV (E.2.1 a) n _)
  rw [e1, arrV_store]
  congr 2
  funext j
  rw [hI]
  unfold updV
  by_cases hj : j = k
  · simp [hj]
  · simp [hj]
theorem g_iast (K : kx E p m c cc own args s) (hG : GW E J I H) (hS0 : va_S (gF E) H0 H locs) {y t i n : Nat} (hv : gv y t i = true) (hs : sh t = .inr (0, n)) (hk : ∀ j, gk t j = true) (hr : ∀ j, ¬ (t = 1 ∧ j = 3)) {k x : Int32} (hin : vp_in k n) (hdg : decode cc pc = .ok (.iastore, 1))
    (kk : ∀ (I' : gI), I' = gU I y t i k.toNatClampNeg x → ∀ (H1 : Heap) (locs1 : List Loc), GW E J I' H1 → va_S (gF E) H0 H1 locs1 → W p l e R s m args below meth c H1 locs1 cells slots Q (F0 m (pc + 1) ls rest)) : W p l e R s m args below meth c H locs cells slots Q (F0 m pc ls (.int x :: .int k :: .ref (gA E y t i) :: rest)) := by
  have h0 := hG y t i hv
  rw [hs] at h0
  exact W.iast K.1 K.2.1 h0 (gtys_at K.2.2.2.2 (k := 0) rfl n _) (fun q => by cases q) (by show ¬ (k < 0 ∨ (arrV _ _ _).slots.size ≤ _); rw [arrV_size]; exact hin) rfl rfl hdg fun H1 e1 z oq => kk _ rfl H1 _ (g_rowput K.2.2.2.2 hG hv hs hk hr e1 oq) (hS0.put z oq (gA_in K.2.2.2.2 hv))
theorem g_zast (K : kx E p m c cc own args s) (hG : GW E J I H) (hS0 : va_S (gF E) H0 H locs) {y t i n : Nat} (hv : gv y t i = true) (hs : sh t = .inr (1, n)) (hk : ∀ j, gk t j = true) (hr : ∀ j, ¬ (t = 1 ∧ j = 3)) {k x : Int32} (hx : vp_nar .boolean x = x) (hin : vp_in k n) (hdg : decode cc pc = .ok (.bastore, 1))
    (kk : ∀ (I' : gI), I' = gU I y t i k.toNatClampNeg x → ∀ (H1 : Heap) (locs1 : List Loc), GW E J I' H1 → va_S (gF E) H0 H1 locs1 → W p l e R s m args below meth c H1 locs1 cells slots Q (F0 m (pc + 1) ls rest)) : W p l e R s m args below meth c H locs cells slots Q (F0 m pc ls (.int x :: .int k :: .ref (gA E y t i) :: rest)) := by
  have h0 := hG y t i hv
  rw [hs] at h0
  refine W.zast K.1 K.2.1 h0 (gtys_at K.2.2.2.2 (k := 1) rfl n _) (fun q => by cases q) (by show ¬ (k < 0 ∨ (arrV _ _ _).slots.size ≤ _); rw [arrV_size]; exact hin) rfl rfl hdg fun H1 e1 z oq => kk _ rfl H1 _ (g_rowput K.2.2.2.2 hG hv hs hk hr ?_ oq) (hS0.put z oq (gA_in K.2.2.2.2 hv))
  rw [e1]
  congr 2
  show narrow .boolean (.int x) = .int x
  have h2 : narrow .boolean (.int x) = .int (vp_nar .boolean x) := rfl
  rw [h2, hx]
end GR
end
section
/-! CONTRACTS over the world, a method's entry and ends, and calls. -/
def gws (y : MethodName) (b : ByteArray) (n : Nat) (r : Option FieldType) : List Cond := .code y b n r :: lw_all
def grm (f L : Nat) : Room := { frames := f, cells := 0, slots := 0, locals := L }
/-- from the world I the method answers v, and leaves the world I' -/
def gMi (l : Launch) (E : gE) (J : Int64) (y : MethodName) (b : ByteArray) (n : Nat) (r : Option FieldType) (f L : Nat) (av : List Value) (I : gI) (v : Int32) (I' : gI) : Prop := Met l y (gws y b n r) (grm f L) (va_Pc av (gP E J I)) (va_Qi (fun x (_ : Unit) => x = v) (fun _ t => GW E J I' t.heap) (gF E)) 0 0 (gF E)
def gMl (l : Launch) (E : gE) (J : Int64) (y : MethodName) (b : ByteArray) (n : Nat) (r : Option FieldType) (f L : Nat) (av : List Value) (I : gI) (v : Int64) (I' : gI) : Prop := Met l y (gws y b n r) (grm f L) (va_Pc av (gP E J I)) (va_Ql (fun x (_ : Unit) => x = v) (fun _ t => GW E J I' t.heap) (gF E)) 0 0 (gF E)
def gMv (l : Launch) (E : gE) (J : Int64) (y : MethodName) (b : ByteArray) (n : Nat) (r : Option FieldType) (f L : Nat) (av : List Value) (I : gI) (I' : gI) : Prop := Met l y (gws y b n r) (grm f L) (va_Pc av (gP E J I)) (va_Qv (fun (_ : Unit) => True) (fun _ t => GW E J I' t.heap) (gF E)) 0 0 (gF E)
def gMr (l : Launch) (E : gE) (J : Int64) (y : MethodName) (b : ByteArray) (n : Nat) (r : Option FieldType) (f L : Nat) (av : List Value) (I : gI) (v : Nat) (I' : gI) : Prop := Met l y (gws y b n r) (grm f L) (va_Pc av (gP E J I)) (va_Qr (fun (_ : Unit) => True) (fun _ a t => a = v ∧ GW E J I' t.heap) (gF E)) 0 0 (gF E)
/-- a callee's words -/
def gcal (y : MethodName) (b : ByteArray) (n : Nat) (r : Option FieldType) (na : Nat) : Prop := Cond.code y b n r ∈ lw_all ∧ Cond.initialized y.cls ∈ lw_all ∧ Cond.instanceMethod y ∈ lw_all ∧ Cond.selects y.cls y y ∈ lw_all ∧ (y.cls ≠ "java/lang/invoke/MethodHandle" ∧ y.cls ≠ "java/lang/invoke/VarHandle" ∧ (parseMethodDescriptor y.desc).map (fun d => d.parameters.length) = some na)
def gcaS (y : MethodName) (b : ByteArray) (n : Nat) (r : Option FieldType) (na : Nat) : Prop := Cond.code y b n r ∈ lw_all ∧ Cond.initialized y.cls ∈ lw_all ∧ Cond.static y ∈ lw_all ∧ (y.cls ≠ "java/lang/invoke/MethodHandle" ∧ y.cls ≠ "java/lang/invoke/VarHandle" ∧ (parseMethodDescriptor y.desc).map (fun d => d.parameters.length) = some na)
theorem gws_good {y : MethodName} {b : ByteArray} {n : Nat} {r : Option FieldType} (h : Cond.code y b n r ∈ lw_all) : GoodIn lw_all (gws y b n r) := fun w hw => by
  rcases List.mem_cons.mp hw with rfl | hw
  · exact ⟨h, good_of_word (lw_all_good _ h)⟩
  · exact ⟨hw, good_of_word (lw_all_good _ hw)⟩
theorem gP_blind {E : gE} {J : Int64} {I : gI} (av : List Value) : FrameBlind (va_Pc av (gP E J I)) := fun a U g mk q => ⟨q.1, q.2.1, q.2.2.blind g mk a⟩
theorem va_Q_eq {p : Prop} (h : p) : p := h
section GC
variable {p : Program} {l : Launch} {e : Env} {R : Room} {s : State} {m : MethodId} {args : Array Value} {below : List Frame} {meth : Method} {c : Code} {H : Heap} {locs : List Loc} {cells slots : Nat} {Q : State → Prop}
variable {cc : ByteArray} {pc : Nat} {ls : Array Slot} {rest : List Value} {E : gE} {J : Int64} {I : gI} {own : String}
theorem g_pre (K : kx E p m c cc own args s) (hG : GW E J I H) (hS : va_S (gF E) s.heap H locs) {U : State} (hU : U.heap = H) (hW : s.WarmedH U.vm) : gP E J I U :=
  ⟨by rw [hU]; exact hG, K.2.2.2.2.moved hW (by rw [hU]; exact hS.1) (fun q h1 h2 => by rw [hU]; exact hS.2.1 q h1 h2)⟩
theorem g_recv (K : kx E p m c cc own args s) (hG : GW E J I H) {y t i ci N : Nat} {C : String} {T : u_T} (hv : gv y t i = true) (hs : sh t = .inl ci) (hc : vwCl[ci]? = some (C, T, N)) : ∃ cellB : Cell, H[gA E y t i]? = some cellB ∧ cellB.vm.isStatics = false ∧ s.vm.findClass C = some cellB.cls := by
  have h0 := hG y t i hv
  rw [hs] at h0
  obtain ⟨r, h1, cell, q1, q2, q3, q4⟩ := h0
  have hr : r = (C, T, N) := Option.some.inj (h1.symm.trans hc)
  subst hr
  exact ⟨cell, q1, by rw [q3]; rfl, by rw [q2]; exact (K.2.2.2.2.K.1 ci _ hc).2.1⟩
theorem g_runV {y : MethodName} {b : ByteArray} {n nL na f L index : Nat} {r : Option FieldType} {Qc : Array Value → State → Outcome → State → Prop} {As : List Value} {I : gI} {yy t i ci N : Nat} {C : String} {T : u_T}
    (K : kx E p m c cc own args s) (hml : c.maxLocals = nL) (hcal : gcal y b n r na) (hlink : Cond.methodLink own index y ∈ lw_all) (hM : Met l y (gws y b n r) (grm f L) (va_Pc (.ref (gA E yy t i) :: As) (gP E J I)) Qc 0 0 (gF E))
    (hG : GW E J I H) (hS : va_S (gF E) s.heap H locs) (hv : gv yy t i = true) (hs : sh t = .inl ci) (hc : vwCl[ci]? = some (C, T, N)) (hC : y.cls = C) (hn : As.length = na) (hsize : ls.size = nL) (hW : (rest.map fun v => v.category).sum ≤ 8) (hR : f + 1 ≤ R.frames ∧ 8 + (n + 11) + L ≤ R.locals) (hdg : decode cc pc = .ok (.invokevirtual index, 3)) (hf : cells ≤ R.cells ∧ slots ≤ R.slots) :
    va_Run p l e R s m args below meth c H locs cells slots 0 0 (F0 m pc ls (As.reverse ++ .ref (gA E yy t i) :: rest)) rest (Qc (Value.ref (gA E yy t i) :: As).toArray) (gF E) := by
  obtain ⟨hx, hb, hts, hown, hSt⟩ := id K
  obtain ⟨c1, c2, c3, c4, c5⟩ := hcal
  subst hC
  have cw : CallW R s args own y.cls index y b n r (gws y b n r) (grm f L) 0 0 na := ⟨callB_of na hts (gws_good c1) rfl rfl rfl (hts _ c2) (hts _ hlink) c5 hR, hts _ c3, hts _ c4⟩
  exact va_runV (As := As) (rest := rest) ⟨hx, hb, hml, hown, hts⟩ hM cw ⟨gP_blind _, g_recv K hG hv hs hc, fun U hU hW => ⟨rfl, g_pre K hG hS hU hW⟩⟩ rfl hn hsize rfl (by show 2 * 0 + _ ≤ 8; omega) hdg hf
theorem g_runS {y : MethodName} {b : ByteArray} {n nL na f L index : Nat} {r : Option FieldType} {Qc : Array Value → State → Outcome → State → Prop} {As : List Value} {I : gI}
    (K : kx E p m c cc own args s) (hml : c.maxLocals = nL) (hcal : gcaS y b n r na) (hlink : Cond.methodLink own index y ∈ lw_all) (hM : Met l y (gws y b n r) (grm f L) (va_Pc As (gP E J I)) Qc 0 0 (gF E))
    (hG : GW E J I H) (hS : va_S (gF E) s.heap H locs) (hn : As.length = na) (hsize : ls.size = nL) (hW : (rest.map fun v => v.category).sum ≤ 8) (hR : f + 1 ≤ R.frames ∧ 8 + (n + 11) + L ≤ R.locals) (hdg : decode cc pc = .ok (.invokestatic index, 3)) (hf : cells ≤ R.cells ∧ slots ≤ R.slots) :
    va_Run p l e R s m args below meth c H locs cells slots 0 0 (F0 m pc ls (As.reverse ++ rest)) rest (Qc As.toArray) (gF E) := by
  obtain ⟨hx, hb, hts, hown, hSt⟩ := id K
  obtain ⟨c1, c2, c3, c5⟩ := hcal
  have cw : CallB R s args own index y b n r (gws y b n r) (grm f L) 0 0 na ∧ (Cond.static y).before args s = true := ⟨callB_of na hts (gws_good c1) rfl rfl rfl (hts _ c2) (hts _ hlink) c5 hR, hts _ c3⟩
  exact va_runS (As := As) (rest := rest) ⟨hx, hb, hml, hown, hts⟩ hM cw ⟨gP_blind _, fun U hU hW => ⟨rfl, g_pre K hG hS hU hW⟩⟩ rfl hn hsize rfl (by show 2 * 0 + _ ≤ 8; omega) hdg hf
/-- what goes on behind a call -/
theorem g_ki {st0 : List Value} {a : Array Value} {v : Int32} {I' : gI} (hr : va_Run p l e R s m args below meth c H locs cells slots 0 0 (F0 m pc ls st0) rest (va_Qi (fun x (_ : Unit) => x = v) (fun _ t => GW E J I' t.heap) (gF E) a) (gF E)) (hS : va_S (gF E) s.heap H locs)
    (kk : ∀ (H1 : Heap) (locs1 : List Loc), GW E J I' H1 → va_S (gF E) s.heap H1 locs1 → W p l e R s m args below meth c H1 locs1 cells slots Q (F0 m (pc + 3) ls (.int v :: rest))) : W p l e R s m args below meth c H locs cells slots Q (F0 m pc ls st0) :=
  va_calli hr hS (fun q _ h => h) (fun q h => h) (fun r u t H1 locs1 ht hvm hw hB hz hk hS1 => by
    subst hw
    exact kk H1 locs1 (by rw [← ht]; exact hB) hS1)
theorem g_kl {st0 : List Value} {a : Array Value} {v : Int64} {I' : gI} (hr : va_Run p l e R s m args below meth c H locs cells slots 0 0 (F0 m pc ls st0) rest (va_Ql (fun x (_ : Unit) => x = v) (fun _ t => GW E J I' t.heap) (gF E) a) (gF E)) (hS : va_S (gF E) s.heap H locs)
    (kk : ∀ (H1 : Heap) (locs1 : List Loc), GW E J I' H1 → va_S (gF E) s.heap H1 locs1 → W p l e R s m args below meth c H1 locs1 cells slots Q (F0 m (pc + 3) ls (.long v :: rest))) : W p l e R s m args below meth c H locs cells slots Q (F0 m pc ls st0) :=
  va_calll hr hS (fun q _ h => h) (fun q h => h) (fun r u t H1 locs1 ht hvm hw hB hz hk hS1 => by
    subst hw
    exact kk H1 locs1 (by rw [← ht]; exact hB) hS1)
theorem g_kv {st0 : List Value} {a : Array Value} {I' : gI} (hr : va_Run p l e R s m args below meth c H locs cells slots 0 0 (F0 m pc ls st0) rest (va_Qv (fun (_ : Unit) => True) (fun _ t => GW E J I' t.heap) (gF E) a) (gF E)) (hS : va_S (gF E) s.heap H locs)
    (kk : ∀ (H1 : Heap) (locs1 : List Loc), GW E J I' H1 → va_S (gF E) s.heap H1 locs1 → W p l e R s m args below meth c H1 locs1 cells slots Q (F0 m (pc + 3) ls rest)) : W p l e R s m args below meth c H locs cells slots Q (F0 m pc ls st0) :=
  va_callv hr hS (fun q _ h => h) (fun q h => h) (fun u t H1 locs1 ht hvm hw hB hz hk hS1 => kk H1 locs1 (by rw [← ht]; exact hB) hS1)
theorem g_kr {st0 : List Value} {a : Array Value} {v : Nat} {I' : gI} (hr : va_Run p l e R s m args below meth c H locs cells slots 0 0 (F0 m pc ls st0) rest (va_Qr (fun (_ : Unit) => True) (fun _ x t => x = v ∧ GW E J I' t.heap) (gF E) a) (gF E)) (hS : va_S (gF E) s.heap H locs)
    (kk : ∀ (H1 : Heap) (locs1 : List Loc), GW E J I' H1 → va_S (gF E) s.heap H1 locs1 → W p l e R s m args below meth c H1 locs1 cells slots Q (F0 m (pc + 3) ls (.ref v :: rest))) : W p l e R s m args below meth c H locs cells slots Q (F0 m pc ls st0) :=
  va_callr hr hS (fun q _ h => h) (fun q h => h) (fun u x t H1 locs1 ht hvm hw hB hz hk hS1 => by
    obtain ⟨hB1, hB2⟩ := hB
    subst hB1
    exact kk H1 locs1 (by rw [← ht]; exact hB2) hS1)
/-- a method's entry -/
theorem g_entry {y : MethodName} {b : ByteArray} {n f L : Nat} {r : Option FieldType} {av : List Value} {lv : List (Nat × Value)} {Qc : Array Value → State → Outcome → State → Prop} (hy : plainName y.cls = true) (hlen : (lg_sl av).length ≤ n) (hlv : lv_args 0 av = lv)
    (body : ∀ (p : Program) (e : Env) (s : State) (m : MethodId) (below : List Frame) (meth : Method) (c : Code) (ls : Array Slot), kx E p m c b y.cls av.toArray s → GW E J I s.heap → va_S (gF E) s.heap s.heap [] → c.maxLocals = n → meth.sig.returnType = r → meth.locks = false → lv_has ls n lv →
      W p l e (grm f L) s m av.toArray below meth c s.heap [] 0 0 (MQ below Qc av.toArray s 0 0 (gF E)) (F0 m 0 ls [])) : Met l y (gws y b n r) (grm f L) (va_Pc av (gP E J I)) Qc 0 0 (gF E) := by
  refine Met.ofW (cc := b) (maxL := n) (ret := r) hy rfl ?_
  intro p e s m args below meth c s₁ B hml hv
  obtain ⟨rfl, hG, hSt⟩ := hv
  have hts0 := atoms_spec (ws := gws y b n r) B.pre
  have hl := lv_entry av hlen
  rw [lg_entry_eq]
  rw [hlv] at hl
  exact body p e s m below meth c _ ⟨B.exec, B.bytes, fun w hw => hts0 w (List.mem_cons_of_mem _ hw), findClass_of_methodNamed B.named, hSt⟩ hG va_S.rf hml B.returns B.notSynchronized hl
/-- its ends -/
theorem g_iret {av : Array Value} {v x : Int32} {I' : gI} (K : kx E p m c cc own av s) (hG : GW E J I' H) (hS : va_S (gF E) s.heap H locs) (hr : meth.sig.returnType = some .int) (hlocks : meth.locks = false) (hv : x = v) (hdg : decode cc pc = .ok (.ireturn, 1)) : W p l e R s m av below meth c H locs 0 0 (MQ below (va_Qi (fun x (_ : Unit) => x = v) (fun _ t => GW E J I' t.heap) (gF E)) av s 0 0 (gF E)) (F0 m pc ls [.int x]) :=
  W.iret K.1 K.2.1 hr (fun t ht hW => ⟨⟨x, (), rfl, hv, by show GW E J I' t.heap; rw [ht]; exact hG⟩, hS.F ht⟩) hS.2.2 hdg hlocks
theorem g_vret {av : Array Value} {I' : gI} (K : kx E p m c cc own av s) (hG : GW E J I' H) (hS : va_S (gF E) s.heap H locs) (hr : meth.sig.returnType = none) (hlocks : meth.locks = false) (hdg : decode cc pc = .ok (.return_, 1)) : W p l e R s m av below meth c H locs 0 0 (MQ below (va_Qv (fun (_ : Unit) => True) (fun _ t => GW E J I' t.heap) (gF E)) av s 0 0 (gF E)) (F0 m pc ls []) :=
  W.vret K.1 K.2.1 hr (fun t ht hW => ⟨⟨(), rfl, trivial, by show GW E J I' t.heap; rw [ht]; exact hG⟩, hS.F ht⟩) hS.2.2 hdg hlocks
theorem g_lret {av : Array Value} {v x : Int64} {I' : gI} (K : kx E p m c cc own av s) (hG : GW E J I' H) (hS : va_S (gF E) s.heap H locs) (hr : meth.sig.returnType = some .long) (hlocks : meth.locks = false) (hv : x = v) (hdg : decode cc pc = .ok (.lreturn, 1)) : W p l e R s m av below meth c H locs 0 0 (MQ below (va_Ql (fun x (_ : Unit) => x = v) (fun _ t => GW E J I' t.heap) (gF E)) av s 0 0 (gF E)) (F0 m pc ls [.long x]) :=
  W.lret K.1 K.2.1 hr (fun t ht hW => ⟨⟨x, (), rfl, hv, by show GW E J I' t.heap; rw [ht]; exact hG⟩, hS.F ht⟩) hS.2.2 hdg hlocks
theorem g_zret {av : Array Value} {v x : Int32} {I' : gI} (K : kx E p m c cc own av s) (hG : GW E J I' H) (hS : va_S (gF E) s.heap H locs) (hr : meth.sig.returnType = some .boolean) (hlocks : meth.locks = false) (hn : vp_nar .boolean x = x) (hv : x = v) (hdg : decode cc pc = .ok (.ireturn, 1)) : W p l e R s m av below meth c H locs 0 0 (MQ below (va_Qi (fun x (_ : Unit) => x = v) (fun _ t => GW E J I' t.heap) (gF E)) av s 0 0 (gF E)) (F0 m pc ls [.int x]) :=
  W.zret K.1 K.2.1 hr (by show Value.int (vp_nar .boolean x) = _; rw [hn]) (fun t ht hW => ⟨⟨x, (), rfl, hv, by show GW E J I' t.heap; rw [ht]; exact hG⟩, hS.F ht⟩) hS.2.2 hdg hlocks
theorem g_aret {av : Array Value} {v x : Nat} {ty : FieldType} {I' : gI} (K : kx E p m c cc own av s) (hG : GW E J I' H) (hS : va_S (gF E) s.heap H locs) (hr : meth.sig.returnType = some ty) (hty : (∃ n, ty = .object n) ∨ ∃ t, ty = .array t) (hlocks : meth.locks = false) (hv : x = v) (hdg : decode cc pc = .ok (.areturn, 1)) : W p l e R s m av below meth c H locs 0 0 (MQ below (va_Qr (fun (_ : Unit) => True) (fun _ a t => a = v ∧ GW E J I' t.heap) (gF E)) av s 0 0 (gF E)) (F0 m pc ls [.ref x]) :=
  W.aret (v := .ref x) K.1 K.2.1 hr hty (Or.inr ⟨x, rfl⟩) (fun t ht hW => ⟨⟨(), x, rfl, trivial, hv, by show GW E J I' t.heap; rw [ht]; exact hG⟩, hS.F ht⟩) hS.2.2 hdg hlocks
end GC
end
section
/-! more rows: valid keys, lengths, copies of rows, switches -/
theorem gv0 {y : Nat} (h : y < 2) : gv y 0 0 = true := by simp [gv, h]
theorem gv1 {y i : Nat} (h : y < 2) (hi : i < 6) : gv y 1 i = true := by simp [gv, h, hi]
theorem gv2 {y i : Nat} (h : y < 2) (hi : i < 6) : gv y 2 i = true := by simp [gv, h, hi]
theorem gv3 {y i : Nat} (h : y < 2) (hi : i < 6) : gv y 3 i = true := by simp [gv, h, hi]
theorem gv4 {y i : Nat} (h : y < 2) (hi : i < 10) : gv y 4 i = true := by simp [gv, h, hi]
theorem gv5 {y : Nat} (h : y < 2) : gv y 5 0 = true := by simp [gv, h]
theorem gv6 {y : Nat} (h : y < 2) : gv y 6 0 = true := by simp [gv, h]
theorem gv7 {y : Nat} (h : y < 2) : gv y 7 0 = true := by simp [gv, h]
theorem gv8 {y : Nat} (h : y < 2) : gv y 8 0 = true := by simp [gv, h]
theorem gvs {y : Nat} (h : y = 3 ∨ y = 4) (t : Nat) (ht : gv 3 t 0 = true) : gv y t 0 = true := by
  rcases h with rfl | rfl
  · exact ht
  · simpa [gv] using ht
theorem sv_urow {E : gE} {J : Int64} {I : gI} {y t i : Nat} {g : Nat → Int32} (hk : ∀ j, gk t j = true) (hr : t ≠ 1) (y' t' i' j' : Nat) : sv E J (gset I y (urow (I y) t i g)) y' t' i' j' = if y' = y ∧ t' = t ∧ i' = i then .int (g j') else sv E J I y' t' i' j' := by
  by_cases h : y' = y ∧ t' = t ∧ i' = i
  · obtain ⟨rfl, rfl, rfl⟩ := h
    rw [if_pos ⟨rfl, rfl, rfl⟩, sv_int (hk _), gset_at]
    simp [urow]
  · rw [if_neg h]
    have e : ∀ a b d, ¬ (a = y ∧ b = t ∧ d = i) → ∀ j, gset I y (urow (I y) t i g) a b d j = I a b d j := by
      intro a b d hn j
      by_cases hy : a = y
      · subst hy
        rw [gset_at]
        unfold urow
        rw [if_neg]
        intro q
        exact hn ⟨rfl, q⟩
      · rw [gset_ne I _ hy]
    unfold sv
    rw [e _ _ _ h]
    have e2 : grf E (gset I y (urow (I y) t i g)) y' t' i' j' = grf E I y' t' i' j' := by
      unfold grf
      split <;> try rfl
      rw [e _ _ _ (fun q => hr q.2.1.symm)]
    rw [e2]
section GR2
variable {p : Program} {l : Launch} {e : Env} {R : Room} {s : State} {m : MethodId} {args : Array Value} {below : List Frame} {meth : Method} {c : Code} {H : Heap} {locs : List Loc} {cells slots : Nat} {Q : State → Prop}
variable {cc : ByteArray} {pc : Nat} {ls : Array Slot} {rest : List Value} {E : gE} {J : Int64} {I : gI} {own : String} {H0 : Heap}
theorem g_alen (K : kx E p m c cc own args s) (hG : GW E J I H) {y t i a n : Nat} {ty : FieldType} (hv : gv y t i = true) (hs : sh t = .inr (a, n)) (hty : (gtys E)[a]? = some (E.2.1 a, ty)) {v : Int32} (hn : Int32.ofNat n = v) (hdg : decode cc pc = .ok (.arraylength, 1))
    (kk : W p l e R s m args below meth c H locs cells slots Q (F0 m (pc + 1) ls (.int v :: rest))) : W p l e R s m args below meth c H locs cells slots Q (F0 m pc ls (.ref (gA E y t i) :: rest)) := by
  have h0 := hG y t i hv
  rw [hs] at h0
  exact W.alen (n := v) K.1 K.2.1 h0 (gtys_at K.2.2.2.2 (k := a) hty n _) (by rw [arrV_size]; exact hn) rfl rfl hdg kk
theorem g_copy (K : kx E p m c cc own args s) (hml : c.maxLocals = ls.size) {index : Nat} (hlink : Cond.methodLink own index arraycopyName ∈ lw_all) (hG : GW E J I H) (hS : va_S (gF E) H0 H locs) {ys ts is y t i a n0 n1 : Nat} {ty : FieldType} (hv0 : gv ys ts is = true) (hv1 : gv y t i = true) (hs0 : sh ts = .inr (a, n0)) (hs1 : sh t = .inr (a, n1)) (hk0 : ∀ j, gk ts j = true) (hk1 : ∀ j, gk t j = true) (ht1 : t ≠ 1) (hty : (gtys E)[a]? = some (E.2.1 a, ty)) (hprim : refKind ty = false)
    {sp dp n : Int32} (h1 : ¬ sp < 0) (h2 : ¬ dp < 0) (h3 : ¬ n < 0) (h4 : sp.toNatClampNeg + n.toNatClampNeg ≤ n0) (h5 : dp.toNatClampNeg + n.toNatClampNeg ≤ n1) (hfit : ∀ i, i < n.toNatClampNeg → fits ty (.int (I ys ts is (sp.toNatClampNeg + i))) = true)
    (hframes : 1 ≤ R.frames) (hlocals : (rest.map fun v => v.category).sum + (nativeFrameWords "java/lang/System" "arraycopy" 5 + 11) ≤ R.locals) (hdg : decode cc pc = .ok (.invokestatic index, 3))
    (kk : ∀ I' : gI, I' = gset I y (urow (I y) t i (va_cpy (I ys ts is) (I y t i) sp.toNatClampNeg dp.toNatClampNeg n.toNatClampNeg)) → ∀ (H1 : Heap) (locs1 : List Loc), GW E J I' H1 → va_S (gF E) H0 H1 locs1 → W p l e R s m args below meth c H1 locs1 cells slots Q (F0 m (pc + 3) ls rest)) : W p l e R s m args below meth c H locs cells slots Q (F0 m pc ls (.int n :: .int dp :: .ref (gA E y t i) :: .int sp :: .ref (gA E ys ts is) :: rest)) := by
  have nn : ∀ z : Int32, ¬ z < 0 → z.toInt = (z.toNatClampNeg : Int) := by
    intro z hz
    have hz0 : (0 : Int) ≤ z.toInt := by
      have := Int32.not_lt.mp hz
      simpa using Int32.le_iff_toInt_le.mp this
    show z.toInt = ((z.toInt.toNat : Nat) : Int)
    omega
  obtain ⟨hexec, hb, hts, hown, hSt⟩ := id K
  intro T hT X
  have hc0 := hG ys ts is hv0
  rw [hs0] at hc0
  have hc1 := hG y t i hv1
  rw [hs1] at hc1
  have e0 : arrV (E.2.1 a) n0 (sv E J I ys ts is) = arrV (E.2.1 a) n0 (fun j => .int (I ys ts is j)) := by
    congr 1
    funext j
    exact sv_int (hk0 j)
  have e1 : arrV (E.2.1 a) n1 (sv E J I y t i) = arrV (E.2.1 a) n1 (fun j => .int (I y t i j)) := by
    congr 1
    funext j
    exact sv_int (hk1 j)
  replace hc0 : H[gA E ys ts is]? = some (arrV (E.2.1 a) n0 (fun j => .int (I ys ts is j))) := by rw [← e0]; exact hc0
  replace hc1 : H[gA E y t i]? = some (arrV (E.2.1 a) n1 (fun j => .int (I y t i j))) := by rw [← e1]; exact hc1
  obtain ⟨-, k0, hk0', cm0, hkk0⟩ := gtys_at hSt (k := a) hty n0 (fun j => .int (I ys ts is j))
  obtain ⟨-, k1, hk1', cm1, hkk1⟩ := gtys_at hSt (k := a) hty n1 (fun j => .int (I y t i j))
  obtain ⟨vm', X', step⟩ := X.arraycopy hexec hown (hts _ hlink) (hts _ q584) (hts _ q583) (hts _ q14) (src := gA E ys ts is) (dst := gA E y t i) (cs := arrV (E.2.1 a) n0 (fun j => .int (I ys ts is j))) (cd := arrV (E.2.1 a) n1 (fun j => .int (I y t i j))) (srcPos := sp) (destPos := dp) (n := n) (by rw [hT]; exact hc0) (by rw [hT]; exact hc1)
    (fun _ h => by cases h) (fun _ h => by cases h) (fun h => by cases h) (fun h => by cases h) hk0' hk1' hkk0 hkk1 (by simp [hprim]) h1 h2 h3
    (by rw [nn sp h1, nn n h3]; rw [arrV_size]; omega)
    (by rw [nn dp h2, nn n h3]; rw [arrV_size]; omega)
    (fun vm₁ _ k hk => by
      have e : (arrV (E.2.1 a) n0 (fun j => Value.int (I ys ts is j))).slots.getD (sp.toNatClampNeg + k) .null = .int (I ys ts is (sp.toNatClampNeg + k)) := by
        rw [Array.getD_eq_getD_getElem?, arrV_read _ _ (by omega)]
        rfl
      refine ⟨?_, ?_⟩
      · rw [e]
        exact hfit k hk
      · rw [e]
        exact trivial)
    (g := F0 m pc ls (.int n :: .int dp :: .ref (gA E y t i) :: .int sp :: .ref (gA E ys ts is) :: rest)) rfl (by rw [hml]) (rest := rest) rfl (by rw [hb]; exact hdg) hframes (by show 2 * 0 + _ + _ ≤ _; omega)
  have e2 : copied (arrV (E.2.1 a) n0 (fun j => Value.int (I ys ts is j))) (arrV (E.2.1 a) n1 (fun j => Value.int (I y t i j))) sp dp n = arrV (E.2.1 a) n1 (fun j => .int (va_cpy (I ys ts is) (I y t i) sp.toNatClampNeg dp.toNatClampNeg n.toNatClampNeg j)) := va_copied (fun z => .int z) _ _ _ _ h4
  rw [e2] at X' step
  have hl : gA E y t i < H.size := (Array.getElem?_eq_some_iff.mp hc1).1
  have hheap : ((T.setVm vm').setCell (gA E y t i) (arrV (E.2.1 a) n1 (fun j => .int (va_cpy (I ys ts is) (I y t i) sp.toNatClampNeg dp.toNatClampNeg n.toNatClampNeg j)))).heap = H.setIfInBounds (gA E y t i) (arrV (E.2.1 a) n1 (fun j => .int (va_cpy (I ys ts is) (I y t i) sp.toNatClampNeg dp.toNatClampNeg n.toNatClampNeg j))) := by rw [← hT]; rfl
  have oq : ∀ q : Nat, q ≠ gA E y t i → (H.setIfInBounds (gA E y t i) (arrV (E.2.1 a) n1 (fun j => .int (va_cpy (I ys ts is) (I y t i) sp.toNatClampNeg dp.toNatClampNeg n.toNatClampNeg j))))[q]? = H[q]? := fun q hq => by simp [Array.getElem?_setIfInBounds, Ne.symm hq]
  have hI := sv_urow (E := E) (J := J) (I := I) (y := y) (t := t) (i := i) (g := va_cpy (I ys ts is) (I y t i) sp.toNatClampNeg dp.toNatClampNeg n.toNatClampNeg) hk1 ht1
  obtain ⟨t2, a1, b1⟩ := kk _ rfl _ _ (hG.put hSt.ok hv1 (by
      rw [hs1]
      show (H.setIfInBounds (gA E y t i) _)[gA E y t i]? = some (arrV _ _ _)
      rw [Array.getElem?_setIfInBounds, if_pos rfl, if_pos hl]
      congr 2
      funext j
      rw [hI, if_pos ⟨rfl, rfl, rfl⟩]) oq (fun y' t' i' j' hn => by rw [hI, if_neg hn])) ⟨by simp; exact hS.1, fun q g1 g2 => by
      rw [oq q (fun e => g2 (by rw [e]; exact gA_in hSt hv1))]
      exact hS.2.1 q g1 g2, fun q hq => by
      rcases List.mem_append.mp hq with h | h
      · exact hS.2.2 q h
      · obtain ⟨z, -, hz⟩ := List.mem_map.mp h
        rw [← hz]
        exact gA_in hSt hv1⟩ _ hheap X'
  exact ⟨t2, step t2 a1, b1⟩
end GR2
theorem gfitZ {x : Int32} (hx : x = 0 ∨ x = 1) : fits .boolean (.int x) = true := by
  rcases hx with rfl | rfl <;> rfl
theorem gnarZ {x : Int32} (hx : x = 0 ∨ x = 1) : narrow .boolean (.int x) = .int x := by
  rcases hx with rfl | rfl <;> rfl
theorem gvpZ {x : Int32} (hx : x = 0 ∨ x = 1) : vp_nar .boolean x = x := by
  rcases hx with rfl | rfl <;> rfl
theorem gz0 : (0 : Int32) = 0 ∨ (0 : Int32) = 1 := Or.inl rfl
theorem gz1 : (1 : Int32) = 0 ∨ (1 : Int32) = 1 := Or.inr rfl

/-! the yards' shape: what their code needs to stay within -/
def isN (x : Int32) (b : Nat) : Prop := x.toNatClampNeg ≤ b ∧ x = nI x.toNatClampNeg
def wf (Z : gY) : Prop := isN (Z 0 0 4) 6 ∧ isN (Z 0 0 5) 10 ∧ (∀ i, i < 6 → (Z 1 i 3).toNatClampNeg < 6) ∧ (∀ c, c < 6 → isN (Z 2 c 1) 8) ∧ ∀ i, i < 6 → Z 1 i 0 = nI i
theorem wf.N {Z : gY} (h : wf Z) : (Z 0 0 4).toNatClampNeg ≤ 6 := h.1.1
theorem wf.Ne {Z : gY} (h : wf Z) : Z 0 0 4 = nI (Z 0 0 4).toNatClampNeg := h.1.2
theorem wf.M {Z : gY} (h : wf Z) : (Z 0 0 5).toNatClampNeg ≤ 10 := h.2.1.1
theorem wf.Me {Z : gY} (h : wf Z) : Z 0 0 5 = nI (Z 0 0 5).toNatClampNeg := h.2.1.2
theorem wf.cart {Z : gY} (h : wf Z) {i : Nat} (hi : i < 6) : (Z 1 i 3).toNatClampNeg < 6 := h.2.2.1 i hi
theorem wf.size {Z : gY} (h : wf Z) {c : Nat} (hc : c < 6) : (Z 2 c 1).toNatClampNeg ≤ 8 := (h.2.2.2.1 c hc).1
theorem wf.sizeE {Z : gY} (h : wf Z) {c : Nat} (hc : c < 6) : Z 2 c 1 = nI (Z 2 c 1).toNatClampNeg := (h.2.2.2.1 c hc).2
theorem wf.num {Z : gY} (h : wf Z) {i : Nat} (hi : i < 6) : Z 1 i 0 = nI i := h.2.2.2.2 i hi
/-- the slots that wf speaks of -/
def wfP (t j : Nat) : Bool := (t == 0 && (j == 4 || j == 5)) || (t == 1 && (j == 3 || j == 0)) || (t == 2 && j == 1)
theorem wf_ext {Z Z' : gY} (h : wf Z) (e : ∀ t' i' j', wfP t' j' = true → Z' t' i' j' = Z t' i' j') : wf Z' := by
  obtain ⟨h1, h2, h3, h4, h5⟩ := h
  refine ⟨?_, ?_, fun i hi => ?_, fun c hc => ?_, fun i hi => ?_⟩
  · rw [e _ _ _ rfl]; exact h1
  · rw [e _ _ _ rfl]; exact h2
  · rw [e _ _ _ rfl]; exact h3 i hi
  · rw [e _ _ _ rfl]; exact h4 c hc
  · rw [e _ _ _ rfl]; exact h5 i hi
theorem wf_u3 {Z : gY} {t i j : Nat} {x : Int32} (hp : wfP t j = false) (h : wf Z) : wf (u3 Z t i j x) := by
  refine wf_ext h (fun t' i' j' h' => ?_)
  unfold u3
  rw [if_neg]
  rintro ⟨rfl, -, rfl⟩
  rw [hp] at h'
  cases h'
theorem gU_at (I : gI) (y t i j : Nat) (x : Int32) : gU I y t i j x y = u3 (I y) t i j x := gset_at _ _ _
theorem gU_ne (I : gI) {y y' : Nat} (t i j : Nat) (x : Int32) (h : y' ≠ y) : gU I y t i j x y' = I y' := gset_ne _ _ h
theorem gR_at (I : gI) (y t i : Nat) (g : Nat → Int32) : gR I y t i g y = urow (I y) t i g := gset_at _ _ _
theorem gR_ne (I : gI) {y y' : Nat} (t i : Nat) (g : Nat → Int32) (h : y' ≠ y) : gR I y t i g y' = I y' := gset_ne _ _ h
theorem wf_gU {I : gI} {y t i j : Nat} {x : Int32} (hp : wfP t j = false) (h : wf (I y)) : wf (gU I y t i j x y) := by
  rw [gU_at]; exact wf_u3 hp h
theorem wf_other {I : gI} {y y' t i j : Nat} {x : Int32} (hn : y' ≠ y) (h : wf (I y')) : wf (gU I y t i j x y') := by
  rw [gU_ne _ _ _ _ _ hn]; exact h
theorem wf_gR {I : gI} {y t i : Nat} {g : Nat → Int32} (ht : 3 ≤ t) (h : wf (I y)) : wf (gR I y t i g y) := by
  rw [gR_at]
  refine wf_ext h (fun t' i' j' h' => ?_)
  unfold urow
  rw [if_neg]
  rintro ⟨rfl, -⟩
  simp only [wfP, Bool.or_eq_true, Bool.and_eq_true, beq_iff_eq] at h'
  omega
theorem wf_otherR {I : gI} {y y' t i : Nat} {g : Nat → Int32} (hn : y' ≠ y) (h : wf (I y')) : wf (gR I y t i g y') := by
  rw [gR_ne _ _ _ _ hn]; exact h
/-- a cart's size grows, or falls -/
theorem wf_size {I : gI} {y c : Nat} {x : Int32} (hx : isN x 8) (h : wf (I y)) : wf (gU I y 2 c 1 x y) := by
  rw [gU_at]
  obtain ⟨h1, h2, h3, h4, h5⟩ := h
  refine ⟨h1, h2, h3, fun d hd => ?_, h5⟩
  unfold u3
  by_cases e : d = c
  · subst e
    simpa using hx
  · rw [if_neg (by rintro ⟨-, q, -⟩; exact e q)]
    exact h4 d hd
theorem isN_nI {k b : Nat} (h : k ≤ b) (hb : b < 2 ^ 31) : isN (nI k) b := by
  have e : (nI k).toNatClampNeg = k := nI_clamp (by omega)
  exact ⟨by rw [e]; exact h, by rw [e]⟩
theorem vp_lt {x : Int32} {n : Nat} (h : vp_in x n) : x.toNatClampNeg < n := Nat.not_le.mp fun q => h (Or.inr q)
theorem gin0 {n : Nat} (h : 0 < n) (hn : n < 2 ^ 31) : vp_in 0 n := vp_in_nI (n := 0) h hn
/-- loops' ends -/
theorem lp_ge {x : Int32} {N i : Nat} (hx : x = nI N) (hN : N < 2 ^ 31) (h : i + 0 = N) : x ≤ nI i := by
  rw [hx, show i = N by omega]
  exact nI_le (Nat.le_refl _) hN
theorem lp_nge {x : Int32} {N i n : Nat} (hx : x = nI N) (hN : N < 2 ^ 31) (h : i + (n + 1) = N) : ¬ x ≤ nI i := by
  rw [hx]
  exact nI_ge (by omega) hN
theorem gA_eq {E : gE} {s : State} (hSt : gS E s) {y t i y' t' i' : Nat} (h : gv y t i = true) (h' : gv y' t' i' = true) (q : some (gA E y t i) = some (gA E y' t' i')) : i = i' := (hSt.ok.1 _ _ _ _ _ _ h h' (Option.some.inj q)).2.2
theorem gA_ne {E : gE} {y t i i' : Nat} (q : ¬ some (gA E y t i) = some (gA E y t i')) : ¬ i = i' := fun z => q (by rw [z])
theorem gtoInt_ne {x : Int32} {k : Int32} (h : ¬ x = k) : x.toInt ≠ k.toInt := fun q => h (Int32.toInt_inj.mp q)
theorem gsw_0_7 {x : Int32} (h0 : ¬ x = 0) (h1 : ¬ x = 1) (h2 : ¬ x = 2) (h3 : ¬ x = 3) (h4 : ¬ x = 4) (h5 : ¬ x = 5) (h6 : ¬ x = 6) (h7 : ¬ x = 7) : x.toInt < 0 ∨ 7 < x.toInt := by
  have := gtoInt_ne h0; have := gtoInt_ne h1; have := gtoInt_ne h2; have := gtoInt_ne h3; have := gtoInt_ne h4; have := gtoInt_ne h5; have := gtoInt_ne h6; have := gtoInt_ne h7
  simp at *
  omega
theorem gsw_0_5 {x : Int32} (h0 : ¬ x = 0) (h1 : ¬ x = 1) (h2 : ¬ x = 2) (h3 : ¬ x = 3) (h4 : ¬ x = 4) (h5 : ¬ x = 5) : x.toInt < 0 ∨ 5 < x.toInt := by
  have := gtoInt_ne h0; have := gtoInt_ne h1; have := gtoInt_ne h2; have := gtoInt_ne h3; have := gtoInt_ne h4; have := gtoInt_ne h5
  simp at *
  omega
theorem gsw_0_11 {x : Int32} (h0 : ¬ x = 0) (h1 : ¬ x = 1) (h2 : ¬ x = 2) (h3 : ¬ x = 3) (h4 : ¬ x = 4) (h5 : ¬ x = 5) (h6 : ¬ x = 6) (h7 : ¬ x = 7) (h8 : ¬ x = 8) (h9 : ¬ x = 9) (h10 : ¬ x = 10) (h11 : ¬ x = 11) : x.toInt < 0 ∨ 11 < x.toInt := by
  have := gtoInt_ne h0; have := gtoInt_ne h1; have := gtoInt_ne h2; have := gtoInt_ne h3; have := gtoInt_ne h4; have := gtoInt_ne h5; have := gtoInt_ne h6; have := gtoInt_ne h7
  have := gtoInt_ne h8; have := gtoInt_ne h9; have := gtoInt_ne h10; have := gtoInt_ne h11
  simp at *
  omega
end
section
/-! PRINTED by wip/gen/fields.py: a row for each link of a field, and the words of each callee -/
section GFld
variable {p : Program} {l : Launch} {e : Env} {R : Room} {s : State} {m : MethodId} {args : Array Value} {below : List Frame} {meth : Method} {c : Code} {H : Heap} {locs : List Loc} {cells slots : Nat} {Q : State → Prop}
variable {cc : ByteArray} {pc : Nat} {ls : Array Slot} {rest : List Value} {E : gE} {J : Int64} {I : gI} {H0 : Heap} {y i : Nat}
theorem gf_X0_9 (K : kx E p m c cc "HayThieves$Cart" args s) (hG : GW E J I H) (hv : gv y 2 i = true) (hdg : decode cc pc = .ok (.getfield 9, 3)) (kk : W p l e R s m args below meth c H locs cells slots Q (F0 m (pc + 3) ls (.ref (gA E y 3 i) :: rest))) : W p l e R s m args below meth c H locs cells slots Q (F0 m pc ls (.ref (gA E y 2 i) :: rest)) := g_get K hG hv rfl rfl in_X0 0 (by decide) q45 rfl hdg kk
theorem gf_X0_15 (K : kx E p m c cc "HayThieves$Cart" args s) (hG : GW E J I H) (hv : gv y 2 i = true) (hdg : decode cc pc = .ok (.getfield 15, 3)) (kk : W p l e R s m args below meth c H locs cells slots Q (F0 m (pc + 3) ls (.int (I y 2 i 1) :: rest))) : W p l e R s m args below meth c H locs cells slots Q (F0 m pc ls (.ref (gA E y 2 i) :: rest)) := g_get K hG hv rfl rfl in_X0 1 (by decide) q46 (sv_int rfl) hdg kk
theorem pf_X0_15 (K : kx E p m c cc "HayThieves$Cart" args s) (hG : GW E J I H) (hS0 : va_S (gF E) H0 H locs) (hv : gv y 2 i = true) {x : Int32} (hdg : decode cc pc = .ok (.putfield 15, 3)) (kk : ∀ I1 : gI, I1 = gU I y 2 i 1 x → ∀ (H1 : Heap) (locs1 : List Loc), GW E J I1 H1 → va_S (gF E) H0 H1 locs1 → W p l e R s m args below meth c H1 locs1 cells slots Q (F0 m (pc + 3) ls rest)) : W p l e R s m args below meth c H locs cells slots Q (F0 m pc ls (.int x :: .ref (gA E y 2 i) :: rest)) := g_putV K tyX0 tyX0_ok nmX0 hG hS0 hv rfl rfl in_X0 1 (by decide) q46 rfl (ty := .int) (by decide +kernel) rfl rfl (sv_u3 rfl (fun _ _ _ _ _ => grf_u3 (by decide) _ _ _ _)) hdg (kk _ rfl)
theorem gf_X1_9 (K : kx E p m c cc "HayThieves$Lad" args s) (hG : GW E J I H) (hv : gv y 1 i = true) (hdg : decode cc pc = .ok (.getfield 9, 3)) (kk : W p l e R s m args below meth c H locs cells slots Q (F0 m (pc + 3) ls (.int (I y 1 i 1) :: rest))) : W p l e R s m args below meth c H locs cells slots Q (F0 m pc ls (.ref (gA E y 1 i) :: rest)) := g_get K hG hv rfl rfl in_X1 1 (by decide) q59 (sv_int rfl) hdg kk
theorem pf_X1_9 (K : kx E p m c cc "HayThieves$Lad" args s) (hG : GW E J I H) (hS0 : va_S (gF E) H0 H locs) (hv : gv y 1 i = true) {x : Int32} (hdg : decode cc pc = .ok (.putfield 9, 3)) (kk : ∀ I1 : gI, I1 = gU I y 1 i 1 x → ∀ (H1 : Heap) (locs1 : List Loc), GW E J I1 H1 → va_S (gF E) H0 H1 locs1 → W p l e R s m args below meth c H1 locs1 cells slots Q (F0 m (pc + 3) ls rest)) : W p l e R s m args below meth c H locs cells slots Q (F0 m pc ls (.int x :: .ref (gA E y 1 i) :: rest)) := g_putV K tyX1 tyX1_ok nmX1 hG hS0 hv rfl rfl in_X1 1 (by decide) q59 rfl (ty := .int) (by decide +kernel) rfl rfl (sv_u3 rfl (fun _ _ _ _ _ => grf_u3 (by decide) _ _ _ _)) hdg (kk _ rfl)
theorem gf_X1_15 (K : kx E p m c cc "HayThieves$Lad" args s) (hG : GW E J I H) (hv : gv y 1 i = true) (hdg : decode cc pc = .ok (.getfield 15, 3)) (kk : W p l e R s m args below meth c H locs cells slots Q (F0 m (pc + 3) ls (.int (I y 1 i 2) :: rest))) : W p l e R s m args below meth c H locs cells slots Q (F0 m pc ls (.ref (gA E y 1 i) :: rest)) := g_get K hG hv rfl rfl in_X1 2 (by decide) q61 (sv_int rfl) hdg kk
theorem pf_X1_15 (K : kx E p m c cc "HayThieves$Lad" args s) (hG : GW E J I H) (hS0 : va_S (gF E) H0 H locs) (hv : gv y 1 i = true) {x : Int32} (hdg : decode cc pc = .ok (.putfield 15, 3)) (kk : ∀ I1 : gI, I1 = gU I y 1 i 2 x → ∀ (H1 : Heap) (locs1 : List Loc), GW E J I1 H1 → va_S (gF E) H0 H1 locs1 → W p l e R s m args below meth c H1 locs1 cells slots Q (F0 m (pc + 3) ls rest)) : W p l e R s m args below meth c H locs cells slots Q (F0 m pc ls (.int x :: .ref (gA E y 1 i) :: rest)) := g_putV K tyX1 tyX1_ok nmX1 hG hS0 hv rfl rfl in_X1 2 (by decide) q61 rfl (ty := .int) (by decide +kernel) rfl rfl (sv_u3 rfl (fun _ _ _ _ _ => grf_u3 (by decide) _ _ _ _)) hdg (kk _ rfl)
theorem gf_X1_21 (K : kx E p m c cc "HayThieves$Lad" args s) (hG : GW E J I H) (hv : gv y 1 i = true) (hdg : decode cc pc = .ok (.getfield 21, 3)) (kk : W p l e R s m args below meth c H locs cells slots Q (F0 m (pc + 3) ls (.ref (gA E y 2 (I y 1 i 3).toNatClampNeg) :: rest))) : W p l e R s m args below meth c H locs cells slots Q (F0 m pc ls (.ref (gA E y 1 i) :: rest)) := g_get K hG hv rfl rfl in_X1 3 (by decide) q64 rfl hdg kk
theorem gf_X1_25 (K : kx E p m c cc "HayThieves$Lad" args s) (hG : GW E J I H) (hv : gv y 1 i = true) (hdg : decode cc pc = .ok (.getfield 25, 3)) (kk : W p l e R s m args below meth c H locs cells slots Q (F0 m (pc + 3) ls (.int (I y 1 i 4) :: rest))) : W p l e R s m args below meth c H locs cells slots Q (F0 m pc ls (.ref (gA E y 1 i) :: rest)) := g_get K hG hv rfl rfl in_X1 4 (by decide) q67 (sv_int rfl) hdg kk
theorem pf_X1_25 (K : kx E p m c cc "HayThieves$Lad" args s) (hG : GW E J I H) (hS0 : va_S (gF E) H0 H locs) (hv : gv y 1 i = true) {x : Int32} (hdg : decode cc pc = .ok (.putfield 25, 3)) (kk : ∀ I1 : gI, I1 = gU I y 1 i 4 x → ∀ (H1 : Heap) (locs1 : List Loc), GW E J I1 H1 → va_S (gF E) H0 H1 locs1 → W p l e R s m args below meth c H1 locs1 cells slots Q (F0 m (pc + 3) ls rest)) : W p l e R s m args below meth c H locs cells slots Q (F0 m pc ls (.int x :: .ref (gA E y 1 i) :: rest)) := g_putV K tyX1 tyX1_ok nmX1 hG hS0 hv rfl rfl in_X1 4 (by decide) q67 rfl (ty := .int) (by decide +kernel) rfl rfl (sv_u3 rfl (fun _ _ _ _ _ => grf_u3 (by decide) _ _ _ _)) hdg (kk _ rfl)
theorem gf_X1_28 (K : kx E p m c cc "HayThieves$Lad" args s) (hG : GW E J I H) (hv : gv y 1 i = true) (hdg : decode cc pc = .ok (.getfield 28, 3)) (kk : W p l e R s m args below meth c H locs cells slots Q (F0 m (pc + 3) ls (.int (I y 1 i 5) :: rest))) : W p l e R s m args below meth c H locs cells slots Q (F0 m pc ls (.ref (gA E y 1 i) :: rest)) := g_get K hG hv rfl rfl in_X1 5 (by decide) q69 (sv_int rfl) hdg kk
theorem pf_X1_28 (K : kx E p m c cc "HayThieves$Lad" args s) (hG : GW E J I H) (hS0 : va_S (gF E) H0 H locs) (hv : gv y 1 i = true) {x : Int32} (hdg : decode cc pc = .ok (.putfield 28, 3)) (kk : ∀ I1 : gI, I1 = gU I y 1 i 5 x → ∀ (H1 : Heap) (locs1 : List Loc), GW E J I1 H1 → va_S (gF E) H0 H1 locs1 → W p l e R s m args below meth c H1 locs1 cells slots Q (F0 m (pc + 3) ls rest)) : W p l e R s m args below meth c H locs cells slots Q (F0 m pc ls (.int x :: .ref (gA E y 1 i) :: rest)) := g_putV K tyX1 tyX1_ok nmX1 hG hS0 hv rfl rfl in_X1 5 (by decide) q69 rfl (ty := .int) (by decide +kernel) rfl rfl (sv_u3 rfl (fun _ _ _ _ _ => grf_u3 (by decide) _ _ _ _)) hdg (kk _ rfl)
theorem gf_X1_31 (K : kx E p m c cc "HayThieves$Lad" args s) (hG : GW E J I H) (hv : gv y 1 i = true) (hdg : decode cc pc = .ok (.getfield 31, 3)) (kk : W p l e R s m args below meth c H locs cells slots Q (F0 m (pc + 3) ls (.int (I y 1 i 6) :: rest))) : W p l e R s m args below meth c H locs cells slots Q (F0 m pc ls (.ref (gA E y 1 i) :: rest)) := g_get K hG hv rfl rfl in_X1 6 (by decide) q71 (sv_int rfl) hdg kk
theorem pf_X1_31 (K : kx E p m c cc "HayThieves$Lad" args s) (hG : GW E J I H) (hS0 : va_S (gF E) H0 H locs) (hv : gv y 1 i = true) {x : Int32} (hdg : decode cc pc = .ok (.putfield 31, 3)) (kk : ∀ I1 : gI, I1 = gU I y 1 i 6 x → ∀ (H1 : Heap) (locs1 : List Loc), GW E J I1 H1 → va_S (gF E) H0 H1 locs1 → W p l e R s m args below meth c H1 locs1 cells slots Q (F0 m (pc + 3) ls rest)) : W p l e R s m args below meth c H locs cells slots Q (F0 m pc ls (.int x :: .ref (gA E y 1 i) :: rest)) := g_putV K tyX1 tyX1_ok nmX1 hG hS0 hv rfl rfl in_X1 6 (by decide) q71 rfl (ty := .int) (by decide +kernel) rfl rfl (sv_u3 rfl (fun _ _ _ _ _ => grf_u3 (by decide) _ _ _ _)) hdg (kk _ rfl)
theorem gf_X1_34 (K : kx E p m c cc "HayThieves$Lad" args s) (hG : GW E J I H) (hv : gv y 1 i = true) (hdg : decode cc pc = .ok (.getfield 34, 3)) (kk : W p l e R s m args below meth c H locs cells slots Q (F0 m (pc + 3) ls (.int (I y 1 i 7) :: rest))) : W p l e R s m args below meth c H locs cells slots Q (F0 m pc ls (.ref (gA E y 1 i) :: rest)) := g_get K hG hv rfl rfl in_X1 7 (by decide) q73 (sv_int rfl) hdg kk
theorem pf_X1_34 (K : kx E p m c cc "HayThieves$Lad" args s) (hG : GW E J I H) (hS0 : va_S (gF E) H0 H locs) (hv : gv y 1 i = true) {x : Int32} (hx : x = 0 ∨ x = 1) (hdg : decode cc pc = .ok (.putfield 34, 3)) (kk : ∀ I1 : gI, I1 = gU I y 1 i 7 x → ∀ (H1 : Heap) (locs1 : List Loc), GW E J I1 H1 → va_S (gF E) H0 H1 locs1 → W p l e R s m args below meth c H1 locs1 cells slots Q (F0 m (pc + 3) ls rest)) : W p l e R s m args below meth c H locs cells slots Q (F0 m pc ls (.int x :: .ref (gA E y 1 i) :: rest)) := g_putV K tyX1 tyX1_ok nmX1 hG hS0 hv rfl rfl in_X1 7 (by decide) q73 rfl (ty := .boolean) (by decide +kernel) (gnarZ hx) (gfitZ hx) (sv_u3 rfl (fun _ _ _ _ _ => grf_u3 (by decide) _ _ _ _)) hdg (kk _ rfl)
theorem gf_X1_38 (K : kx E p m c cc "HayThieves$Lad" args s) (hG : GW E J I H) (hv : gv y 1 i = true) (hdg : decode cc pc = .ok (.getfield 38, 3)) (kk : W p l e R s m args below meth c H locs cells slots Q (F0 m (pc + 3) ls (.int (I y 1 i 8) :: rest))) : W p l e R s m args below meth c H locs cells slots Q (F0 m pc ls (.ref (gA E y 1 i) :: rest)) := g_get K hG hv rfl rfl in_X1 8 (by decide) q76 (sv_int rfl) hdg kk
theorem pf_X1_38 (K : kx E p m c cc "HayThieves$Lad" args s) (hG : GW E J I H) (hS0 : va_S (gF E) H0 H locs) (hv : gv y 1 i = true) {x : Int32} (hdg : decode cc pc = .ok (.putfield 38, 3)) (kk : ∀ I1 : gI, I1 = gU I y 1 i 8 x → ∀ (H1 : Heap) (locs1 : List Loc), GW E J I1 H1 → va_S (gF E) H0 H1 locs1 → W p l e R s m args below meth c H1 locs1 cells slots Q (F0 m (pc + 3) ls rest)) : W p l e R s m args below meth c H locs cells slots Q (F0 m pc ls (.int x :: .ref (gA E y 1 i) :: rest)) := g_putV K tyX1 tyX1_ok nmX1 hG hS0 hv rfl rfl in_X1 8 (by decide) q76 rfl (ty := .int) (by decide +kernel) rfl rfl (sv_u3 rfl (fun _ _ _ _ _ => grf_u3 (by decide) _ _ _ _)) hdg (kk _ rfl)
theorem gf_X1_41 (K : kx E p m c cc "HayThieves$Lad" args s) (hG : GW E J I H) (hv : gv y 1 i = true) (hdg : decode cc pc = .ok (.getfield 41, 3)) (kk : W p l e R s m args below meth c H locs cells slots Q (F0 m (pc + 3) ls (.int (I y 1 i 9) :: rest))) : W p l e R s m args below meth c H locs cells slots Q (F0 m pc ls (.ref (gA E y 1 i) :: rest)) := g_get K hG hv rfl rfl in_X1 9 (by decide) q78 (sv_int rfl) hdg kk
theorem pf_X1_41 (K : kx E p m c cc "HayThieves$Lad" args s) (hG : GW E J I H) (hS0 : va_S (gF E) H0 H locs) (hv : gv y 1 i = true) {x : Int32} (hdg : decode cc pc = .ok (.putfield 41, 3)) (kk : ∀ I1 : gI, I1 = gU I y 1 i 9 x → ∀ (H1 : Heap) (locs1 : List Loc), GW E J I1 H1 → va_S (gF E) H0 H1 locs1 → W p l e R s m args below meth c H1 locs1 cells slots Q (F0 m (pc + 3) ls rest)) : W p l e R s m args below meth c H locs cells slots Q (F0 m pc ls (.int x :: .ref (gA E y 1 i) :: rest)) := g_putV K tyX1 tyX1_ok nmX1 hG hS0 hv rfl rfl in_X1 9 (by decide) q78 rfl (ty := .int) (by decide +kernel) rfl rfl (sv_u3 rfl (fun _ _ _ _ _ => grf_u3 (by decide) _ _ _ _)) hdg (kk _ rfl)
theorem gf_X1_44 (K : kx E p m c cc "HayThieves$Lad" args s) (hG : GW E J I H) (hv : gv y 1 i = true) (hdg : decode cc pc = .ok (.getfield 44, 3)) (kk : W p l e R s m args below meth c H locs cells slots Q (F0 m (pc + 3) ls (.int (I y 1 i 10) :: rest))) : W p l e R s m args below meth c H locs cells slots Q (F0 m pc ls (.ref (gA E y 1 i) :: rest)) := g_get K hG hv rfl rfl in_X1 10 (by decide) q79 (sv_int rfl) hdg kk
theorem pf_X1_44 (K : kx E p m c cc "HayThieves$Lad" args s) (hG : GW E J I H) (hS0 : va_S (gF E) H0 H locs) (hv : gv y 1 i = true) {x : Int32} (hdg : decode cc pc = .ok (.putfield 44, 3)) (kk : ∀ I1 : gI, I1 = gU I y 1 i 10 x → ∀ (H1 : Heap) (locs1 : List Loc), GW E J I1 H1 → va_S (gF E) H0 H1 locs1 → W p l e R s m args below meth c H1 locs1 cells slots Q (F0 m (pc + 3) ls rest)) : W p l e R s m args below meth c H locs cells slots Q (F0 m pc ls (.int x :: .ref (gA E y 1 i) :: rest)) := g_putV K tyX1 tyX1_ok nmX1 hG hS0 hv rfl rfl in_X1 10 (by decide) q79 rfl (ty := .int) (by decide +kernel) rfl rfl (sv_u3 rfl (fun _ _ _ _ _ => grf_u3 (by decide) _ _ _ _)) hdg (kk _ rfl)
theorem gf_X1_47 (K : kx E p m c cc "HayThieves$Lad" args s) (hG : GW E J I H) (hv : gv y 1 i = true) (hdg : decode cc pc = .ok (.getfield 47, 3)) (kk : W p l e R s m args below meth c H locs cells slots Q (F0 m (pc + 3) ls (.int (I y 1 i 11) :: rest))) : W p l e R s m args below meth c H locs cells slots Q (F0 m pc ls (.ref (gA E y 1 i) :: rest)) := g_get K hG hv rfl rfl in_X1 11 (by decide) q82 (sv_int rfl) hdg kk
theorem pf_X1_47 (K : kx E p m c cc "HayThieves$Lad" args s) (hG : GW E J I H) (hS0 : va_S (gF E) H0 H locs) (hv : gv y 1 i = true) {x : Int32} (hdg : decode cc pc = .ok (.putfield 47, 3)) (kk : ∀ I1 : gI, I1 = gU I y 1 i 11 x → ∀ (H1 : Heap) (locs1 : List Loc), GW E J I1 H1 → va_S (gF E) H0 H1 locs1 → W p l e R s m args below meth c H1 locs1 cells slots Q (F0 m (pc + 3) ls rest)) : W p l e R s m args below meth c H locs cells slots Q (F0 m pc ls (.int x :: .ref (gA E y 1 i) :: rest)) := g_putV K tyX1 tyX1_ok nmX1 hG hS0 hv rfl rfl in_X1 11 (by decide) q82 rfl (ty := .int) (by decide +kernel) rfl rfl (sv_u3 rfl (fun _ _ _ _ _ => grf_u3 (by decide) _ _ _ _)) hdg (kk _ rfl)
theorem gf_X1_53 (K : kx E p m c cc "HayThieves$Lad" args s) (hG : GW E J I H) (hv : gv y 2 i = true) (hdg : decode cc pc = .ok (.getfield 53, 3)) (kk : W p l e R s m args below meth c H locs cells slots Q (F0 m (pc + 3) ls (.int (I y 2 i 1) :: rest))) : W p l e R s m args below meth c H locs cells slots Q (F0 m pc ls (.ref (gA E y 2 i) :: rest)) := g_getN K hG hv rfl rfl in_X0 1 (by decide) qn_Lad_53 (sv_int rfl) hdg kk
theorem gf_X2_9 (K : kx E p m c cc "HayThieves$Load" args s) (hG : GW E J I H) (hv : gv y 4 i = true) (hdg : decode cc pc = .ok (.getfield 9, 3)) (kk : W p l e R s m args below meth c H locs cells slots Q (F0 m (pc + 3) ls (.int (I y 4 i 0) :: rest))) : W p l e R s m args below meth c H locs cells slots Q (F0 m pc ls (.ref (gA E y 4 i) :: rest)) := g_get K hG hv rfl rfl in_X2 0 (by decide) q114 (sv_int rfl) hdg kk
theorem pf_X2_9 (K : kx E p m c cc "HayThieves$Load" args s) (hG : GW E J I H) (hS0 : va_S (gF E) H0 H locs) (hv : gv y 4 i = true) {x : Int32} (hdg : decode cc pc = .ok (.putfield 9, 3)) (kk : ∀ I1 : gI, I1 = gU I y 4 i 0 x → ∀ (H1 : Heap) (locs1 : List Loc), GW E J I1 H1 → va_S (gF E) H0 H1 locs1 → W p l e R s m args below meth c H1 locs1 cells slots Q (F0 m (pc + 3) ls rest)) : W p l e R s m args below meth c H locs cells slots Q (F0 m pc ls (.int x :: .ref (gA E y 4 i) :: rest)) := g_putV K tyX2 tyX2_ok nmX2 hG hS0 hv rfl rfl in_X2 0 (by decide) q114 rfl (ty := .int) (by decide +kernel) rfl rfl (sv_u3 rfl (fun _ _ _ _ _ => grf_u3 (by decide) _ _ _ _)) hdg (kk _ rfl)
theorem gf_X2_15 (K : kx E p m c cc "HayThieves$Load" args s) (hG : GW E J I H) (hv : gv y 4 i = true) (hdg : decode cc pc = .ok (.getfield 15, 3)) (kk : W p l e R s m args below meth c H locs cells slots Q (F0 m (pc + 3) ls (.int (I y 4 i 1) :: rest))) : W p l e R s m args below meth c H locs cells slots Q (F0 m pc ls (.ref (gA E y 4 i) :: rest)) := g_get K hG hv rfl rfl in_X2 1 (by decide) q116 (sv_int rfl) hdg kk
theorem pf_X2_15 (K : kx E p m c cc "HayThieves$Load" args s) (hG : GW E J I H) (hS0 : va_S (gF E) H0 H locs) (hv : gv y 4 i = true) {x : Int32} (hdg : decode cc pc = .ok (.putfield 15, 3)) (kk : ∀ I1 : gI, I1 = gU I y 4 i 1 x → ∀ (H1 : Heap) (locs1 : List Loc), GW E J I1 H1 → va_S (gF E) H0 H1 locs1 → W p l e R s m args below meth c H1 locs1 cells slots Q (F0 m (pc + 3) ls rest)) : W p l e R s m args below meth c H locs cells slots Q (F0 m pc ls (.int x :: .ref (gA E y 4 i) :: rest)) := g_putV K tyX2 tyX2_ok nmX2 hG hS0 hv rfl rfl in_X2 1 (by decide) q116 rfl (ty := .int) (by decide +kernel) rfl rfl (sv_u3 rfl (fun _ _ _ _ _ => grf_u3 (by decide) _ _ _ _)) hdg (kk _ rfl)
theorem gf_X2_18 (K : kx E p m c cc "HayThieves$Load" args s) (hG : GW E J I H) (hv : gv y 4 i = true) (hdg : decode cc pc = .ok (.getfield 18, 3)) (kk : W p l e R s m args below meth c H locs cells slots Q (F0 m (pc + 3) ls (.int (I y 4 i 2) :: rest))) : W p l e R s m args below meth c H locs cells slots Q (F0 m pc ls (.ref (gA E y 4 i) :: rest)) := g_get K hG hv rfl rfl in_X2 2 (by decide) q119 (sv_int rfl) hdg kk
theorem pf_X2_18 (K : kx E p m c cc "HayThieves$Load" args s) (hG : GW E J I H) (hS0 : va_S (gF E) H0 H locs) (hv : gv y 4 i = true) {x : Int32} (hdg : decode cc pc = .ok (.putfield 18, 3)) (kk : ∀ I1 : gI, I1 = gU I y 4 i 2 x → ∀ (H1 : Heap) (locs1 : List Loc), GW E J I1 H1 → va_S (gF E) H0 H1 locs1 → W p l e R s m args below meth c H1 locs1 cells slots Q (F0 m (pc + 3) ls rest)) : W p l e R s m args below meth c H locs cells slots Q (F0 m pc ls (.int x :: .ref (gA E y 4 i) :: rest)) := g_putV K tyX2 tyX2_ok nmX2 hG hS0 hv rfl rfl in_X2 2 (by decide) q119 rfl (ty := .int) (by decide +kernel) rfl rfl (sv_u3 rfl (fun _ _ _ _ _ => grf_u3 (by decide) _ _ _ _)) hdg (kk _ rfl)
theorem gf_X2_21 (K : kx E p m c cc "HayThieves$Load" args s) (hG : GW E J I H) (hv : gv y 4 i = true) (hdg : decode cc pc = .ok (.getfield 21, 3)) (kk : W p l e R s m args below meth c H locs cells slots Q (F0 m (pc + 3) ls (.int (I y 4 i 3) :: rest))) : W p l e R s m args below meth c H locs cells slots Q (F0 m pc ls (.ref (gA E y 4 i) :: rest)) := g_get K hG hv rfl rfl in_X2 3 (by decide) q121 (sv_int rfl) hdg kk
theorem pf_X2_21 (K : kx E p m c cc "HayThieves$Load" args s) (hG : GW E J I H) (hS0 : va_S (gF E) H0 H locs) (hv : gv y 4 i = true) {x : Int32} (hdg : decode cc pc = .ok (.putfield 21, 3)) (kk : ∀ I1 : gI, I1 = gU I y 4 i 3 x → ∀ (H1 : Heap) (locs1 : List Loc), GW E J I1 H1 → va_S (gF E) H0 H1 locs1 → W p l e R s m args below meth c H1 locs1 cells slots Q (F0 m (pc + 3) ls rest)) : W p l e R s m args below meth c H locs cells slots Q (F0 m pc ls (.int x :: .ref (gA E y 4 i) :: rest)) := g_putV K tyX2 tyX2_ok nmX2 hG hS0 hv rfl rfl in_X2 3 (by decide) q121 rfl (ty := .int) (by decide +kernel) rfl rfl (sv_u3 rfl (fun _ _ _ _ _ => grf_u3 (by decide) _ _ _ _)) hdg (kk _ rfl)
theorem gf_X2_24 (K : kx E p m c cc "HayThieves$Load" args s) (hG : GW E J I H) (hv : gv y 4 i = true) (hdg : decode cc pc = .ok (.getfield 24, 3)) (kk : W p l e R s m args below meth c H locs cells slots Q (F0 m (pc + 3) ls (.int (I y 4 i 4) :: rest))) : W p l e R s m args below meth c H locs cells slots Q (F0 m pc ls (.ref (gA E y 4 i) :: rest)) := g_get K hG hv rfl rfl in_X2 4 (by decide) q123 (sv_int rfl) hdg kk
theorem pf_X2_24 (K : kx E p m c cc "HayThieves$Load" args s) (hG : GW E J I H) (hS0 : va_S (gF E) H0 H locs) (hv : gv y 4 i = true) {x : Int32} (hdg : decode cc pc = .ok (.putfield 24, 3)) (kk : ∀ I1 : gI, I1 = gU I y 4 i 4 x → ∀ (H1 : Heap) (locs1 : List Loc), GW E J I1 H1 → va_S (gF E) H0 H1 locs1 → W p l e R s m args below meth c H1 locs1 cells slots Q (F0 m (pc + 3) ls rest)) : W p l e R s m args below meth c H locs cells slots Q (F0 m pc ls (.int x :: .ref (gA E y 4 i) :: rest)) := g_putV K tyX2 tyX2_ok nmX2 hG hS0 hv rfl rfl in_X2 4 (by decide) q123 rfl (ty := .int) (by decide +kernel) rfl rfl (sv_u3 rfl (fun _ _ _ _ _ => grf_u3 (by decide) _ _ _ _)) hdg (kk _ rfl)
theorem gf_X2_27 (K : kx E p m c cc "HayThieves$Load" args s) (hG : GW E J I H) (hv : gv y 4 i = true) (hdg : decode cc pc = .ok (.getfield 27, 3)) (kk : W p l e R s m args below meth c H locs cells slots Q (F0 m (pc + 3) ls (.int (I y 4 i 5) :: rest))) : W p l e R s m args below meth c H locs cells slots Q (F0 m pc ls (.ref (gA E y 4 i) :: rest)) := g_get K hG hv rfl rfl in_X2 5 (by decide) q125 (sv_int rfl) hdg kk
theorem pf_X2_27 (K : kx E p m c cc "HayThieves$Load" args s) (hG : GW E J I H) (hS0 : va_S (gF E) H0 H locs) (hv : gv y 4 i = true) {x : Int32} (hdg : decode cc pc = .ok (.putfield 27, 3)) (kk : ∀ I1 : gI, I1 = gU I y 4 i 5 x → ∀ (H1 : Heap) (locs1 : List Loc), GW E J I1 H1 → va_S (gF E) H0 H1 locs1 → W p l e R s m args below meth c H1 locs1 cells slots Q (F0 m (pc + 3) ls rest)) : W p l e R s m args below meth c H locs cells slots Q (F0 m pc ls (.int x :: .ref (gA E y 4 i) :: rest)) := g_putV K tyX2 tyX2_ok nmX2 hG hS0 hv rfl rfl in_X2 5 (by decide) q125 rfl (ty := .int) (by decide +kernel) rfl rfl (sv_u3 rfl (fun _ _ _ _ _ => grf_u3 (by decide) _ _ _ _)) hdg (kk _ rfl)
theorem gf_X2_30 (K : kx E p m c cc "HayThieves$Load" args s) (hG : GW E J I H) (hv : gv y 4 i = true) (hdg : decode cc pc = .ok (.getfield 30, 3)) (kk : W p l e R s m args below meth c H locs cells slots Q (F0 m (pc + 3) ls (.int (I y 4 i 6) :: rest))) : W p l e R s m args below meth c H locs cells slots Q (F0 m pc ls (.ref (gA E y 4 i) :: rest)) := g_get K hG hv rfl rfl in_X2 6 (by decide) q127 (sv_int rfl) hdg kk
theorem pf_X2_30 (K : kx E p m c cc "HayThieves$Load" args s) (hG : GW E J I H) (hS0 : va_S (gF E) H0 H locs) (hv : gv y 4 i = true) {x : Int32} (hdg : decode cc pc = .ok (.putfield 30, 3)) (kk : ∀ I1 : gI, I1 = gU I y 4 i 6 x → ∀ (H1 : Heap) (locs1 : List Loc), GW E J I1 H1 → va_S (gF E) H0 H1 locs1 → W p l e R s m args below meth c H1 locs1 cells slots Q (F0 m (pc + 3) ls rest)) : W p l e R s m args below meth c H locs cells slots Q (F0 m pc ls (.int x :: .ref (gA E y 4 i) :: rest)) := g_putV K tyX2 tyX2_ok nmX2 hG hS0 hv rfl rfl in_X2 6 (by decide) q127 rfl (ty := .int) (by decide +kernel) rfl rfl (sv_u3 rfl (fun _ _ _ _ _ => grf_u3 (by decide) _ _ _ _)) hdg (kk _ rfl)
theorem gf_X3_11 (K : kx E p m c cc "HayThieves$Yard" args s) (hG : GW E J I H) (hv : gv y 0 i = true) (hdg : decode cc pc = .ok (.getfield 11, 3)) (kk : W p l e R s m args below meth c H locs cells slots Q (F0 m (pc + 3) ls (.ref (gA E y 7 0) :: rest))) : W p l e R s m args below meth c H locs cells slots Q (F0 m pc ls (.ref (gA E y 0 i) :: rest)) := g_get K hG hv rfl rfl in_X3 0 (by decide) q144 rfl hdg kk
theorem gf_X3_19 (K : kx E p m c cc "HayThieves$Yard" args s) (hG : GW E J I H) (hv : gv y 0 i = true) (hdg : decode cc pc = .ok (.getfield 19, 3)) (kk : W p l e R s m args below meth c H locs cells slots Q (F0 m (pc + 3) ls (.ref (gA E y 8 0) :: rest))) : W p l e R s m args below meth c H locs cells slots Q (F0 m pc ls (.ref (gA E y 0 i) :: rest)) := g_get K hG hv rfl rfl in_X3 1 (by decide) q146 rfl hdg kk
theorem gf_X3_23 (K : kx E p m c cc "HayThieves$Yard" args s) (hG : GW E J I H) (hv : gv y 0 i = true) (hdg : decode cc pc = .ok (.getfield 23, 3)) (kk : W p l e R s m args below meth c H locs cells slots Q (F0 m (pc + 3) ls (.ref (gA E y 5 0) :: rest))) : W p l e R s m args below meth c H locs cells slots Q (F0 m pc ls (.ref (gA E y 0 i) :: rest)) := g_get K hG hv rfl rfl in_X3 2 (by decide) q148 rfl hdg kk
theorem gf_X3_27 (K : kx E p m c cc "HayThieves$Yard" args s) (hG : GW E J I H) (hv : gv y 0 i = true) (hdg : decode cc pc = .ok (.getfield 27, 3)) (kk : W p l e R s m args below meth c H locs cells slots Q (F0 m (pc + 3) ls (.ref (gA E y 6 0) :: rest))) : W p l e R s m args below meth c H locs cells slots Q (F0 m pc ls (.ref (gA E y 0 i) :: rest)) := g_get K hG hv rfl rfl in_X3 3 (by decide) q149 rfl hdg kk
theorem gf_X3_31 (K : kx E p m c cc "HayThieves$Yard" args s) (hG : GW E J I H) (hv : gv y 0 i = true) (hdg : decode cc pc = .ok (.getfield 31, 3)) (kk : W p l e R s m args below meth c H locs cells slots Q (F0 m (pc + 3) ls (.int (I y 0 i 4) :: rest))) : W p l e R s m args below meth c H locs cells slots Q (F0 m pc ls (.ref (gA E y 0 i) :: rest)) := g_get K hG hv rfl rfl in_X3 4 (by decide) q150 (sv_int rfl) hdg kk
theorem pf_X3_31 (K : kx E p m c cc "HayThieves$Yard" args s) (hG : GW E J I H) (hS0 : va_S (gF E) H0 H locs) (hv : gv y 0 i = true) {x : Int32} (hdg : decode cc pc = .ok (.putfield 31, 3)) (kk : ∀ I1 : gI, I1 = gU I y 0 i 4 x → ∀ (H1 : Heap) (locs1 : List Loc), GW E J I1 H1 → va_S (gF E) H0 H1 locs1 → W p l e R s m args below meth c H1 locs1 cells slots Q (F0 m (pc + 3) ls rest)) : W p l e R s m args below meth c H locs cells slots Q (F0 m pc ls (.int x :: .ref (gA E y 0 i) :: rest)) := g_putV K tyX3 tyX3_ok nmX3 hG hS0 hv rfl rfl in_X3 4 (by decide) q150 rfl (ty := .int) (by decide +kernel) rfl rfl (sv_u3 rfl (fun _ _ _ _ _ => grf_u3 (by decide) _ _ _ _)) hdg (kk _ rfl)
theorem gf_X3_35 (K : kx E p m c cc "HayThieves$Yard" args s) (hG : GW E J I H) (hv : gv y 0 i = true) (hdg : decode cc pc = .ok (.getfield 35, 3)) (kk : W p l e R s m args below meth c H locs cells slots Q (F0 m (pc + 3) ls (.int (I y 0 i 5) :: rest))) : W p l e R s m args below meth c H locs cells slots Q (F0 m pc ls (.ref (gA E y 0 i) :: rest)) := g_get K hG hv rfl rfl in_X3 5 (by decide) q152 (sv_int rfl) hdg kk
theorem pf_X3_35 (K : kx E p m c cc "HayThieves$Yard" args s) (hG : GW E J I H) (hS0 : va_S (gF E) H0 H locs) (hv : gv y 0 i = true) {x : Int32} (hdg : decode cc pc = .ok (.putfield 35, 3)) (kk : ∀ I1 : gI, I1 = gU I y 0 i 5 x → ∀ (H1 : Heap) (locs1 : List Loc), GW E J I1 H1 → va_S (gF E) H0 H1 locs1 → W p l e R s m args below meth c H1 locs1 cells slots Q (F0 m (pc + 3) ls rest)) : W p l e R s m args below meth c H locs cells slots Q (F0 m pc ls (.int x :: .ref (gA E y 0 i) :: rest)) := g_putV K tyX3 tyX3_ok nmX3 hG hS0 hv rfl rfl in_X3 5 (by decide) q152 rfl (ty := .int) (by decide +kernel) rfl rfl (sv_u3 rfl (fun _ _ _ _ _ => grf_u3 (by decide) _ _ _ _)) hdg (kk _ rfl)
theorem gf_X3_38 (K : kx E p m c cc "HayThieves$Yard" args s) (hG : GW E J I H) (hv : gv y 0 i = true) (hdg : decode cc pc = .ok (.getfield 38, 3)) (kk : W p l e R s m args below meth c H locs cells slots Q (F0 m (pc + 3) ls (.int (I y 0 i 6) :: rest))) : W p l e R s m args below meth c H locs cells slots Q (F0 m pc ls (.ref (gA E y 0 i) :: rest)) := g_get K hG hv rfl rfl in_X3 6 (by decide) q154 (sv_int rfl) hdg kk
theorem pf_X3_38 (K : kx E p m c cc "HayThieves$Yard" args s) (hG : GW E J I H) (hS0 : va_S (gF E) H0 H locs) (hv : gv y 0 i = true) {x : Int32} (hdg : decode cc pc = .ok (.putfield 38, 3)) (kk : ∀ I1 : gI, I1 = gU I y 0 i 6 x → ∀ (H1 : Heap) (locs1 : List Loc), GW E J I1 H1 → va_S (gF E) H0 H1 locs1 → W p l e R s m args below meth c H1 locs1 cells slots Q (F0 m (pc + 3) ls rest)) : W p l e R s m args below meth c H locs cells slots Q (F0 m pc ls (.int x :: .ref (gA E y 0 i) :: rest)) := g_putV K tyX3 tyX3_ok nmX3 hG hS0 hv rfl rfl in_X3 6 (by decide) q154 rfl (ty := .int) (by decide +kernel) rfl rfl (sv_u3 rfl (fun _ _ _ _ _ => grf_u3 (by decide) _ _ _ _)) hdg (kk _ rfl)
theorem gf_X3_41 (K : kx E p m c cc "HayThieves$Yard" args s) (hG : GW E J I H) (hv : gv y 0 i = true) (hdg : decode cc pc = .ok (.getfield 41, 3)) (kk : W p l e R s m args below meth c H locs cells slots Q (F0 m (pc + 3) ls (.int (I y 0 i 7) :: rest))) : W p l e R s m args below meth c H locs cells slots Q (F0 m pc ls (.ref (gA E y 0 i) :: rest)) := g_get K hG hv rfl rfl in_X3 7 (by decide) q155 (sv_int rfl) hdg kk
theorem pf_X3_41 (K : kx E p m c cc "HayThieves$Yard" args s) (hG : GW E J I H) (hS0 : va_S (gF E) H0 H locs) (hv : gv y 0 i = true) {x : Int32} (hdg : decode cc pc = .ok (.putfield 41, 3)) (kk : ∀ I1 : gI, I1 = gU I y 0 i 7 x → ∀ (H1 : Heap) (locs1 : List Loc), GW E J I1 H1 → va_S (gF E) H0 H1 locs1 → W p l e R s m args below meth c H1 locs1 cells slots Q (F0 m (pc + 3) ls rest)) : W p l e R s m args below meth c H locs cells slots Q (F0 m pc ls (.int x :: .ref (gA E y 0 i) :: rest)) := g_putV K tyX3 tyX3_ok nmX3 hG hS0 hv rfl rfl in_X3 7 (by decide) q155 rfl (ty := .int) (by decide +kernel) rfl rfl (sv_u3 rfl (fun _ _ _ _ _ => grf_u3 (by decide) _ _ _ _)) hdg (kk _ rfl)
theorem gf_X3_44 (K : kx E p m c cc "HayThieves$Yard" args s) (hG : GW E J I H) (hv : gv y 0 i = true) (hdg : decode cc pc = .ok (.getfield 44, 3)) (kk : W p l e R s m args below meth c H locs cells slots Q (F0 m (pc + 3) ls (.int (I y 0 i 8) :: rest))) : W p l e R s m args below meth c H locs cells slots Q (F0 m pc ls (.ref (gA E y 0 i) :: rest)) := g_get K hG hv rfl rfl in_X3 8 (by decide) q157 (sv_int rfl) hdg kk
theorem pf_X3_44 (K : kx E p m c cc "HayThieves$Yard" args s) (hG : GW E J I H) (hS0 : va_S (gF E) H0 H locs) (hv : gv y 0 i = true) {x : Int32} (hdg : decode cc pc = .ok (.putfield 44, 3)) (kk : ∀ I1 : gI, I1 = gU I y 0 i 8 x → ∀ (H1 : Heap) (locs1 : List Loc), GW E J I1 H1 → va_S (gF E) H0 H1 locs1 → W p l e R s m args below meth c H1 locs1 cells slots Q (F0 m (pc + 3) ls rest)) : W p l e R s m args below meth c H locs cells slots Q (F0 m pc ls (.int x :: .ref (gA E y 0 i) :: rest)) := g_putV K tyX3 tyX3_ok nmX3 hG hS0 hv rfl rfl in_X3 8 (by decide) q157 rfl (ty := .int) (by decide +kernel) rfl rfl (sv_u3 rfl (fun _ _ _ _ _ => grf_u3 (by decide) _ _ _ _)) hdg (kk _ rfl)
theorem gf_X3_47 (K : kx E p m c cc "HayThieves$Yard" args s) (hG : GW E J I H) (hv : gv y 0 i = true) (hdg : decode cc pc = .ok (.getfield 47, 3)) (kk : W p l e R s m args below meth c H locs cells slots Q (F0 m (pc + 3) ls (.int (I y 0 i 9) :: rest))) : W p l e R s m args below meth c H locs cells slots Q (F0 m pc ls (.ref (gA E y 0 i) :: rest)) := g_get K hG hv rfl rfl in_X3 9 (by decide) q158 (sv_int rfl) hdg kk
theorem pf_X3_47 (K : kx E p m c cc "HayThieves$Yard" args s) (hG : GW E J I H) (hS0 : va_S (gF E) H0 H locs) (hv : gv y 0 i = true) {x : Int32} (hdg : decode cc pc = .ok (.putfield 47, 3)) (kk : ∀ I1 : gI, I1 = gU I y 0 i 9 x → ∀ (H1 : Heap) (locs1 : List Loc), GW E J I1 H1 → va_S (gF E) H0 H1 locs1 → W p l e R s m args below meth c H1 locs1 cells slots Q (F0 m (pc + 3) ls rest)) : W p l e R s m args below meth c H locs cells slots Q (F0 m pc ls (.int x :: .ref (gA E y 0 i) :: rest)) := g_putV K tyX3 tyX3_ok nmX3 hG hS0 hv rfl rfl in_X3 9 (by decide) q158 rfl (ty := .int) (by decide +kernel) rfl rfl (sv_u3 rfl (fun _ _ _ _ _ => grf_u3 (by decide) _ _ _ _)) hdg (kk _ rfl)
theorem gf_X3_54 (K : kx E p m c cc "HayThieves$Yard" args s) (hG : GW E J I H) (hv : gv y 1 i = true) (hdg : decode cc pc = .ok (.getfield 54, 3)) (kk : W p l e R s m args below meth c H locs cells slots Q (F0 m (pc + 3) ls (.int (I y 1 i 1) :: rest))) : W p l e R s m args below meth c H locs cells slots Q (F0 m pc ls (.ref (gA E y 1 i) :: rest)) := g_getN K hG hv rfl rfl in_X1 1 (by decide) qn_Yard_54 (sv_int rfl) hdg kk
theorem pf_X3_54 (K : kx E p m c cc "HayThieves$Yard" args s) (hG : GW E J I H) (hS0 : va_S (gF E) H0 H locs) (hv : gv y 1 i = true) {x : Int32} (hdg : decode cc pc = .ok (.putfield 54, 3)) (kk : ∀ I1 : gI, I1 = gU I y 1 i 1 x → ∀ (H1 : Heap) (locs1 : List Loc), GW E J I1 H1 → va_S (gF E) H0 H1 locs1 → W p l e R s m args below meth c H1 locs1 cells slots Q (F0 m (pc + 3) ls rest)) : W p l e R s m args below meth c H locs cells slots Q (F0 m pc ls (.int x :: .ref (gA E y 1 i) :: rest)) := g_putVN K tyX1 tyX1_ok nmX1 hG hS0 hv rfl rfl in_X1 1 (by decide) qn_Yard_54 rfl (ty := .int) (by decide +kernel) rfl rfl (sv_u3 rfl (fun _ _ _ _ _ => grf_u3 (by decide) _ _ _ _)) hdg (kk _ rfl)
theorem gf_X3_57 (K : kx E p m c cc "HayThieves$Yard" args s) (hG : GW E J I H) (hv : gv y 4 i = true) (hdg : decode cc pc = .ok (.getfield 57, 3)) (kk : W p l e R s m args below meth c H locs cells slots Q (F0 m (pc + 3) ls (.int (I y 4 i 0) :: rest))) : W p l e R s m args below meth c H locs cells slots Q (F0 m pc ls (.ref (gA E y 4 i) :: rest)) := g_getN K hG hv rfl rfl in_X2 0 (by decide) qn_Yard_57 (sv_int rfl) hdg kk
theorem pf_X3_57 (K : kx E p m c cc "HayThieves$Yard" args s) (hG : GW E J I H) (hS0 : va_S (gF E) H0 H locs) (hv : gv y 4 i = true) {x : Int32} (hdg : decode cc pc = .ok (.putfield 57, 3)) (kk : ∀ I1 : gI, I1 = gU I y 4 i 0 x → ∀ (H1 : Heap) (locs1 : List Loc), GW E J I1 H1 → va_S (gF E) H0 H1 locs1 → W p l e R s m args below meth c H1 locs1 cells slots Q (F0 m (pc + 3) ls rest)) : W p l e R s m args below meth c H locs cells slots Q (F0 m pc ls (.int x :: .ref (gA E y 4 i) :: rest)) := g_putVN K tyX2 tyX2_ok nmX2 hG hS0 hv rfl rfl in_X2 0 (by decide) qn_Yard_57 rfl (ty := .int) (by decide +kernel) rfl rfl (sv_u3 rfl (fun _ _ _ _ _ => grf_u3 (by decide) _ _ _ _)) hdg (kk _ rfl)
theorem pf_X3_60 (K : kx E p m c cc "HayThieves$Yard" args s) (hG : GW E J I H) (hS0 : va_S (gF E) H0 H locs) (hv : gv y 4 i = true) {x : Int32} (hdg : decode cc pc = .ok (.putfield 60, 3)) (kk : ∀ I1 : gI, I1 = gU I y 4 i 2 x → ∀ (H1 : Heap) (locs1 : List Loc), GW E J I1 H1 → va_S (gF E) H0 H1 locs1 → W p l e R s m args below meth c H1 locs1 cells slots Q (F0 m (pc + 3) ls rest)) : W p l e R s m args below meth c H locs cells slots Q (F0 m pc ls (.int x :: .ref (gA E y 4 i) :: rest)) := g_putVN K tyX2 tyX2_ok nmX2 hG hS0 hv rfl rfl in_X2 2 (by decide) qn_Yard_60 rfl (ty := .int) (by decide +kernel) rfl rfl (sv_u3 rfl (fun _ _ _ _ _ => grf_u3 (by decide) _ _ _ _)) hdg (kk _ rfl)
theorem gf_X3_70 (K : kx E p m c cc "HayThieves$Yard" args s) (hG : GW E J I H) (hv : gv y 1 i = true) (hdg : decode cc pc = .ok (.getfield 70, 3)) (kk : W p l e R s m args below meth c H locs cells slots Q (F0 m (pc + 3) ls (.int (I y 1 i 7) :: rest))) : W p l e R s m args below meth c H locs cells slots Q (F0 m pc ls (.ref (gA E y 1 i) :: rest)) := g_getN K hG hv rfl rfl in_X1 7 (by decide) qn_Yard_70 (sv_int rfl) hdg kk
theorem pf_X3_70 (K : kx E p m c cc "HayThieves$Yard" args s) (hG : GW E J I H) (hS0 : va_S (gF E) H0 H locs) (hv : gv y 1 i = true) {x : Int32} (hx : x = 0 ∨ x = 1) (hdg : decode cc pc = .ok (.putfield 70, 3)) (kk : ∀ I1 : gI, I1 = gU I y 1 i 7 x → ∀ (H1 : Heap) (locs1 : List Loc), GW E J I1 H1 → va_S (gF E) H0 H1 locs1 → W p l e R s m args below meth c H1 locs1 cells slots Q (F0 m (pc + 3) ls rest)) : W p l e R s m args below meth c H locs cells slots Q (F0 m pc ls (.int x :: .ref (gA E y 1 i) :: rest)) := g_putVN K tyX1 tyX1_ok nmX1 hG hS0 hv rfl rfl in_X1 7 (by decide) qn_Yard_70 rfl (ty := .boolean) (by decide +kernel) (gnarZ hx) (gfitZ hx) (sv_u3 rfl (fun _ _ _ _ _ => grf_u3 (by decide) _ _ _ _)) hdg (kk _ rfl)
theorem gf_X3_88 (K : kx E p m c cc "HayThieves$Yard" args s) (hG : GW E J I H) (hv : gv y 4 i = true) (hdg : decode cc pc = .ok (.getfield 88, 3)) (kk : W p l e R s m args below meth c H locs cells slots Q (F0 m (pc + 3) ls (.int (I y 4 i 1) :: rest))) : W p l e R s m args below meth c H locs cells slots Q (F0 m pc ls (.ref (gA E y 4 i) :: rest)) := g_getN K hG hv rfl rfl in_X2 1 (by decide) qn_Yard_88 (sv_int rfl) hdg kk
theorem pf_X3_88 (K : kx E p m c cc "HayThieves$Yard" args s) (hG : GW E J I H) (hS0 : va_S (gF E) H0 H locs) (hv : gv y 4 i = true) {x : Int32} (hdg : decode cc pc = .ok (.putfield 88, 3)) (kk : ∀ I1 : gI, I1 = gU I y 4 i 1 x → ∀ (H1 : Heap) (locs1 : List Loc), GW E J I1 H1 → va_S (gF E) H0 H1 locs1 → W p l e R s m args below meth c H1 locs1 cells slots Q (F0 m (pc + 3) ls rest)) : W p l e R s m args below meth c H locs cells slots Q (F0 m pc ls (.int x :: .ref (gA E y 4 i) :: rest)) := g_putVN K tyX2 tyX2_ok nmX2 hG hS0 hv rfl rfl in_X2 1 (by decide) qn_Yard_88 rfl (ty := .int) (by decide +kernel) rfl rfl (sv_u3 rfl (fun _ _ _ _ _ => grf_u3 (by decide) _ _ _ _)) hdg (kk _ rfl)
theorem gf_X3_95 (K : kx E p m c cc "HayThieves$Yard" args s) (hG : GW E J I H) (hv : gv y 1 i = true) (hdg : decode cc pc = .ok (.getfield 95, 3)) (kk : W p l e R s m args below meth c H locs cells slots Q (F0 m (pc + 3) ls (.int (I y 1 i 2) :: rest))) : W p l e R s m args below meth c H locs cells slots Q (F0 m pc ls (.ref (gA E y 1 i) :: rest)) := g_getN K hG hv rfl rfl in_X1 2 (by decide) qn_Yard_95 (sv_int rfl) hdg kk
theorem gf_X3_108 (K : kx E p m c cc "HayThieves$Yard" args s) (hG : GW E J I H) (hv : gv y 1 i = true) (hdg : decode cc pc = .ok (.getfield 108, 3)) (kk : W p l e R s m args below meth c H locs cells slots Q (F0 m (pc + 3) ls (.ref (gA E y 2 (I y 1 i 3).toNatClampNeg) :: rest))) : W p l e R s m args below meth c H locs cells slots Q (F0 m pc ls (.ref (gA E y 1 i) :: rest)) := g_getN K hG hv rfl rfl in_X1 3 (by decide) qn_Yard_108 rfl hdg kk
theorem gf_X3_112 (K : kx E p m c cc "HayThieves$Yard" args s) (hG : GW E J I H) (hv : gv y 2 i = true) (hdg : decode cc pc = .ok (.getfield 112, 3)) (kk : W p l e R s m args below meth c H locs cells slots Q (F0 m (pc + 3) ls (.int (I y 2 i 1) :: rest))) : W p l e R s m args below meth c H locs cells slots Q (F0 m pc ls (.ref (gA E y 2 i) :: rest)) := g_getN K hG hv rfl rfl in_X0 1 (by decide) qn_Yard_112 (sv_int rfl) hdg kk
theorem gf_X3_117 (K : kx E p m c cc "HayThieves$Yard" args s) (hG : GW E J I H) (hv : gv y 1 i = true) (hdg : decode cc pc = .ok (.getfield 117, 3)) (kk : W p l e R s m args below meth c H locs cells slots Q (F0 m (pc + 3) ls (.int (I y 1 i 0) :: rest))) : W p l e R s m args below meth c H locs cells slots Q (F0 m pc ls (.ref (gA E y 1 i) :: rest)) := g_getN K hG hv rfl rfl in_X1 0 (by decide) qn_Yard_117 (sv_int rfl) hdg kk
theorem gf_X3_134 (K : kx E p m c cc "HayThieves$Yard" args s) (hG : GW E J I H) (hv : gv y 1 i = true) (hdg : decode cc pc = .ok (.getfield 134, 3)) (kk : W p l e R s m args below meth c H locs cells slots Q (F0 m (pc + 3) ls (.int (I y 1 i 6) :: rest))) : W p l e R s m args below meth c H locs cells slots Q (F0 m pc ls (.ref (gA E y 1 i) :: rest)) := g_getN K hG hv rfl rfl in_X1 6 (by decide) qn_Yard_134 (sv_int rfl) hdg kk
theorem pf_X3_134 (K : kx E p m c cc "HayThieves$Yard" args s) (hG : GW E J I H) (hS0 : va_S (gF E) H0 H locs) (hv : gv y 1 i = true) {x : Int32} (hdg : decode cc pc = .ok (.putfield 134, 3)) (kk : ∀ I1 : gI, I1 = gU I y 1 i 6 x → ∀ (H1 : Heap) (locs1 : List Loc), GW E J I1 H1 → va_S (gF E) H0 H1 locs1 → W p l e R s m args below meth c H1 locs1 cells slots Q (F0 m (pc + 3) ls rest)) : W p l e R s m args below meth c H locs cells slots Q (F0 m pc ls (.int x :: .ref (gA E y 1 i) :: rest)) := g_putVN K tyX1 tyX1_ok nmX1 hG hS0 hv rfl rfl in_X1 6 (by decide) qn_Yard_134 rfl (ty := .int) (by decide +kernel) rfl rfl (sv_u3 rfl (fun _ _ _ _ _ => grf_u3 (by decide) _ _ _ _)) hdg (kk _ rfl)
theorem gf_X3_137 (K : kx E p m c cc "HayThieves$Yard" args s) (hG : GW E J I H) (hv : gv y 1 i = true) (hdg : decode cc pc = .ok (.getfield 137, 3)) (kk : W p l e R s m args below meth c H locs cells slots Q (F0 m (pc + 3) ls (.int (I y 1 i 4) :: rest))) : W p l e R s m args below meth c H locs cells slots Q (F0 m pc ls (.ref (gA E y 1 i) :: rest)) := g_getN K hG hv rfl rfl in_X1 4 (by decide) qn_Yard_137 (sv_int rfl) hdg kk
theorem pf_X3_137 (K : kx E p m c cc "HayThieves$Yard" args s) (hG : GW E J I H) (hS0 : va_S (gF E) H0 H locs) (hv : gv y 1 i = true) {x : Int32} (hdg : decode cc pc = .ok (.putfield 137, 3)) (kk : ∀ I1 : gI, I1 = gU I y 1 i 4 x → ∀ (H1 : Heap) (locs1 : List Loc), GW E J I1 H1 → va_S (gF E) H0 H1 locs1 → W p l e R s m args below meth c H1 locs1 cells slots Q (F0 m (pc + 3) ls rest)) : W p l e R s m args below meth c H locs cells slots Q (F0 m pc ls (.int x :: .ref (gA E y 1 i) :: rest)) := g_putVN K tyX1 tyX1_ok nmX1 hG hS0 hv rfl rfl in_X1 4 (by decide) qn_Yard_137 rfl (ty := .int) (by decide +kernel) rfl rfl (sv_u3 rfl (fun _ _ _ _ _ => grf_u3 (by decide) _ _ _ _)) hdg (kk _ rfl)
theorem pf_X3_156 (K : kx E p m c cc "HayThieves$Yard" args s) (hG : GW E J I H) (hS0 : va_S (gF E) H0 H locs) (hv : gv y 1 i = true) {x : Int32} (hdg : decode cc pc = .ok (.putfield 156, 3)) (kk : ∀ I1 : gI, I1 = gU I y 1 i 8 x → ∀ (H1 : Heap) (locs1 : List Loc), GW E J I1 H1 → va_S (gF E) H0 H1 locs1 → W p l e R s m args below meth c H1 locs1 cells slots Q (F0 m (pc + 3) ls rest)) : W p l e R s m args below meth c H locs cells slots Q (F0 m pc ls (.int x :: .ref (gA E y 1 i) :: rest)) := g_putVN K tyX1 tyX1_ok nmX1 hG hS0 hv rfl rfl in_X1 8 (by decide) qn_Yard_156 rfl (ty := .int) (by decide +kernel) rfl rfl (sv_u3 rfl (fun _ _ _ _ _ => grf_u3 (by decide) _ _ _ _)) hdg (kk _ rfl)
theorem gf_X3_172 (K : kx E p m c cc "HayThieves$Yard" args s) (hG : GW E J I H) (hv : gv y 1 i = true) (hdg : decode cc pc = .ok (.getfield 172, 3)) (kk : W p l e R s m args below meth c H locs cells slots Q (F0 m (pc + 3) ls (.int (I y 1 i 5) :: rest))) : W p l e R s m args below meth c H locs cells slots Q (F0 m pc ls (.ref (gA E y 1 i) :: rest)) := g_getN K hG hv rfl rfl in_X1 5 (by decide) qn_Yard_172 (sv_int rfl) hdg kk
theorem pf_X3_172 (K : kx E p m c cc "HayThieves$Yard" args s) (hG : GW E J I H) (hS0 : va_S (gF E) H0 H locs) (hv : gv y 1 i = true) {x : Int32} (hdg : decode cc pc = .ok (.putfield 172, 3)) (kk : ∀ I1 : gI, I1 = gU I y 1 i 5 x → ∀ (H1 : Heap) (locs1 : List Loc), GW E J I1 H1 → va_S (gF E) H0 H1 locs1 → W p l e R s m args below meth c H1 locs1 cells slots Q (F0 m (pc + 3) ls rest)) : W p l e R s m args below meth c H locs cells slots Q (F0 m pc ls (.int x :: .ref (gA E y 1 i) :: rest)) := g_putVN K tyX1 tyX1_ok nmX1 hG hS0 hv rfl rfl in_X1 5 (by decide) qn_Yard_172 rfl (ty := .int) (by decide +kernel) rfl rfl (sv_u3 rfl (fun _ _ _ _ _ => grf_u3 (by decide) _ _ _ _)) hdg (kk _ rfl)
theorem gf_X3_189 (K : kx E p m c cc "HayThieves$Yard" args s) (hG : GW E J I H) (hv : gv y 4 i = true) (hdg : decode cc pc = .ok (.getfield 189, 3)) (kk : W p l e R s m args below meth c H locs cells slots Q (F0 m (pc + 3) ls (.int (I y 4 i 4) :: rest))) : W p l e R s m args below meth c H locs cells slots Q (F0 m pc ls (.ref (gA E y 4 i) :: rest)) := g_getN K hG hv rfl rfl in_X2 4 (by decide) qn_Yard_189 (sv_int rfl) hdg kk
theorem pf_X3_189 (K : kx E p m c cc "HayThieves$Yard" args s) (hG : GW E J I H) (hS0 : va_S (gF E) H0 H locs) (hv : gv y 4 i = true) {x : Int32} (hdg : decode cc pc = .ok (.putfield 189, 3)) (kk : ∀ I1 : gI, I1 = gU I y 4 i 4 x → ∀ (H1 : Heap) (locs1 : List Loc), GW E J I1 H1 → va_S (gF E) H0 H1 locs1 → W p l e R s m args below meth c H1 locs1 cells slots Q (F0 m (pc + 3) ls rest)) : W p l e R s m args below meth c H locs cells slots Q (F0 m pc ls (.int x :: .ref (gA E y 4 i) :: rest)) := g_putVN K tyX2 tyX2_ok nmX2 hG hS0 hv rfl rfl in_X2 4 (by decide) qn_Yard_189 rfl (ty := .int) (by decide +kernel) rfl rfl (sv_u3 rfl (fun _ _ _ _ _ => grf_u3 (by decide) _ _ _ _)) hdg (kk _ rfl)
theorem gf_X3_198 (K : kx E p m c cc "HayThieves$Yard" args s) (hG : GW E J I H) (hv : gv y 4 i = true) (hdg : decode cc pc = .ok (.getfield 198, 3)) (kk : W p l e R s m args below meth c H locs cells slots Q (F0 m (pc + 3) ls (.int (I y 4 i 6) :: rest))) : W p l e R s m args below meth c H locs cells slots Q (F0 m pc ls (.ref (gA E y 4 i) :: rest)) := g_getN K hG hv rfl rfl in_X2 6 (by decide) qn_Yard_198 (sv_int rfl) hdg kk
theorem pf_X3_198 (K : kx E p m c cc "HayThieves$Yard" args s) (hG : GW E J I H) (hS0 : va_S (gF E) H0 H locs) (hv : gv y 4 i = true) {x : Int32} (hdg : decode cc pc = .ok (.putfield 198, 3)) (kk : ∀ I1 : gI, I1 = gU I y 4 i 6 x → ∀ (H1 : Heap) (locs1 : List Loc), GW E J I1 H1 → va_S (gF E) H0 H1 locs1 → W p l e R s m args below meth c H1 locs1 cells slots Q (F0 m (pc + 3) ls rest)) : W p l e R s m args below meth c H locs cells slots Q (F0 m pc ls (.int x :: .ref (gA E y 4 i) :: rest)) := g_putVN K tyX2 tyX2_ok nmX2 hG hS0 hv rfl rfl in_X2 6 (by decide) qn_Yard_198 rfl (ty := .int) (by decide +kernel) rfl rfl (sv_u3 rfl (fun _ _ _ _ _ => grf_u3 (by decide) _ _ _ _)) hdg (kk _ rfl)
theorem pf_X3_201 (K : kx E p m c cc "HayThieves$Yard" args s) (hG : GW E J I H) (hS0 : va_S (gF E) H0 H locs) (hv : gv y 4 i = true) {x : Int32} (hdg : decode cc pc = .ok (.putfield 201, 3)) (kk : ∀ I1 : gI, I1 = gU I y 4 i 3 x → ∀ (H1 : Heap) (locs1 : List Loc), GW E J I1 H1 → va_S (gF E) H0 H1 locs1 → W p l e R s m args below meth c H1 locs1 cells slots Q (F0 m (pc + 3) ls rest)) : W p l e R s m args below meth c H locs cells slots Q (F0 m pc ls (.int x :: .ref (gA E y 4 i) :: rest)) := g_putVN K tyX2 tyX2_ok nmX2 hG hS0 hv rfl rfl in_X2 3 (by decide) qn_Yard_201 rfl (ty := .int) (by decide +kernel) rfl rfl (sv_u3 rfl (fun _ _ _ _ _ => grf_u3 (by decide) _ _ _ _)) hdg (kk _ rfl)
theorem gf_X3_213 (K : kx E p m c cc "HayThieves$Yard" args s) (hG : GW E J I H) (hv : gv y 1 i = true) (hdg : decode cc pc = .ok (.getfield 213, 3)) (kk : W p l e R s m args below meth c H locs cells slots Q (F0 m (pc + 3) ls (.int (I y 1 i 10) :: rest))) : W p l e R s m args below meth c H locs cells slots Q (F0 m pc ls (.ref (gA E y 1 i) :: rest)) := g_getN K hG hv rfl rfl in_X1 10 (by decide) qn_Yard_213 (sv_int rfl) hdg kk
theorem pf_X3_213 (K : kx E p m c cc "HayThieves$Yard" args s) (hG : GW E J I H) (hS0 : va_S (gF E) H0 H locs) (hv : gv y 1 i = true) {x : Int32} (hdg : decode cc pc = .ok (.putfield 213, 3)) (kk : ∀ I1 : gI, I1 = gU I y 1 i 10 x → ∀ (H1 : Heap) (locs1 : List Loc), GW E J I1 H1 → va_S (gF E) H0 H1 locs1 → W p l e R s m args below meth c H1 locs1 cells slots Q (F0 m (pc + 3) ls rest)) : W p l e R s m args below meth c H locs cells slots Q (F0 m pc ls (.int x :: .ref (gA E y 1 i) :: rest)) := g_putVN K tyX1 tyX1_ok nmX1 hG hS0 hv rfl rfl in_X1 10 (by decide) qn_Yard_213 rfl (ty := .int) (by decide +kernel) rfl rfl (sv_u3 rfl (fun _ _ _ _ _ => grf_u3 (by decide) _ _ _ _)) hdg (kk _ rfl)
theorem gf_X3_216 (K : kx E p m c cc "HayThieves$Yard" args s) (hG : GW E J I H) (hv : gv y 1 i = true) (hdg : decode cc pc = .ok (.getfield 216, 3)) (kk : W p l e R s m args below meth c H locs cells slots Q (F0 m (pc + 3) ls (.int (I y 1 i 11) :: rest))) : W p l e R s m args below meth c H locs cells slots Q (F0 m pc ls (.ref (gA E y 1 i) :: rest)) := g_getN K hG hv rfl rfl in_X1 11 (by decide) qn_Yard_216 (sv_int rfl) hdg kk
theorem pf_X3_216 (K : kx E p m c cc "HayThieves$Yard" args s) (hG : GW E J I H) (hS0 : va_S (gF E) H0 H locs) (hv : gv y 1 i = true) {x : Int32} (hdg : decode cc pc = .ok (.putfield 216, 3)) (kk : ∀ I1 : gI, I1 = gU I y 1 i 11 x → ∀ (H1 : Heap) (locs1 : List Loc), GW E J I1 H1 → va_S (gF E) H0 H1 locs1 → W p l e R s m args below meth c H1 locs1 cells slots Q (F0 m (pc + 3) ls rest)) : W p l e R s m args below meth c H locs cells slots Q (F0 m pc ls (.int x :: .ref (gA E y 1 i) :: rest)) := g_putVN K tyX1 tyX1_ok nmX1 hG hS0 hv rfl rfl in_X1 11 (by decide) qn_Yard_216 rfl (ty := .int) (by decide +kernel) rfl rfl (sv_u3 rfl (fun _ _ _ _ _ => grf_u3 (by decide) _ _ _ _)) hdg (kk _ rfl)
theorem gf_X3_219 (K : kx E p m c cc "HayThieves$Yard" args s) (hG : GW E J I H) (hv : gv y 4 i = true) (hdg : decode cc pc = .ok (.getfield 219, 3)) (kk : W p l e R s m args below meth c H locs cells slots Q (F0 m (pc + 3) ls (.int (I y 4 i 5) :: rest))) : W p l e R s m args below meth c H locs cells slots Q (F0 m pc ls (.ref (gA E y 4 i) :: rest)) := g_getN K hG hv rfl rfl in_X2 5 (by decide) qn_Yard_219 (sv_int rfl) hdg kk
theorem pf_X3_219 (K : kx E p m c cc "HayThieves$Yard" args s) (hG : GW E J I H) (hS0 : va_S (gF E) H0 H locs) (hv : gv y 4 i = true) {x : Int32} (hdg : decode cc pc = .ok (.putfield 219, 3)) (kk : ∀ I1 : gI, I1 = gU I y 4 i 5 x → ∀ (H1 : Heap) (locs1 : List Loc), GW E J I1 H1 → va_S (gF E) H0 H1 locs1 → W p l e R s m args below meth c H1 locs1 cells slots Q (F0 m (pc + 3) ls rest)) : W p l e R s m args below meth c H locs cells slots Q (F0 m pc ls (.int x :: .ref (gA E y 4 i) :: rest)) := g_putVN K tyX2 tyX2_ok nmX2 hG hS0 hv rfl rfl in_X2 5 (by decide) qn_Yard_219 rfl (ty := .int) (by decide +kernel) rfl rfl (sv_u3 rfl (fun _ _ _ _ _ => grf_u3 (by decide) _ _ _ _)) hdg (kk _ rfl)
theorem gf_X4_12 (K : kx E p m c cc "HayThieves" args s) (hG : GW E J I H) (hv : gv y 10 i = true) (hdg : decode cc pc = .ok (.getfield 12, 3)) (kk : W p l e R s m args below meth c H locs cells slots Q (F0 m (pc + 3) ls (.ref (gA E 0 0 0) :: rest))) : W p l e R s m args below meth c H locs cells slots Q (F0 m pc ls (.ref (gA E y 10 i) :: rest)) := g_get K hG hv rfl rfl in_X4 0 (by decide) q180 rfl hdg kk
theorem gf_X4_16 (K : kx E p m c cc "HayThieves" args s) (hG : GW E J I H) (hv : gv y 10 i = true) (hdg : decode cc pc = .ok (.getfield 16, 3)) (kk : W p l e R s m args below meth c H locs cells slots Q (F0 m (pc + 3) ls (.ref (gA E 1 0 0) :: rest))) : W p l e R s m args below meth c H locs cells slots Q (F0 m pc ls (.ref (gA E y 10 i) :: rest)) := g_get K hG hv rfl rfl in_X4 1 (by decide) q181 rfl hdg kk
theorem gf_X4_26 (K : kx E p m c cc "HayThieves" args s) (hG : GW E J I H) (hv : gv y 0 i = true) (hdg : decode cc pc = .ok (.getfield 26, 3)) (kk : W p l e R s m args below meth c H locs cells slots Q (F0 m (pc + 3) ls (.int (I y 0 i 4) :: rest))) : W p l e R s m args below meth c H locs cells slots Q (F0 m pc ls (.ref (gA E y 0 i) :: rest)) := g_getN K hG hv rfl rfl in_X3 4 (by decide) qn_H_26 (sv_int rfl) hdg kk
theorem gf_X4_48 (K : kx E p m c cc "HayThieves" args s) (hG : GW E J I H) (hv : gv y 0 i = true) (hdg : decode cc pc = .ok (.getfield 48, 3)) (kk : W p l e R s m args below meth c H locs cells slots Q (F0 m (pc + 3) ls (.ref (gA E y 7 0) :: rest))) : W p l e R s m args below meth c H locs cells slots Q (F0 m pc ls (.ref (gA E y 0 i) :: rest)) := g_getN K hG hv rfl rfl in_X3 0 (by decide) qn_H_48 rfl hdg kk
theorem gf_X4_52 (K : kx E p m c cc "HayThieves" args s) (hG : GW E J I H) (hv : gv y 1 i = true) (hdg : decode cc pc = .ok (.getfield 52, 3)) (kk : W p l e R s m args below meth c H locs cells slots Q (F0 m (pc + 3) ls (.int (I y 1 i 2) :: rest))) : W p l e R s m args below meth c H locs cells slots Q (F0 m pc ls (.ref (gA E y 1 i) :: rest)) := g_getN K hG hv rfl rfl in_X1 2 (by decide) qn_H_52 (sv_int rfl) hdg kk
theorem pf_X4_52 (K : kx E p m c cc "HayThieves" args s) (hG : GW E J I H) (hS0 : va_S (gF E) H0 H locs) (hv : gv y 1 i = true) {x : Int32} (hdg : decode cc pc = .ok (.putfield 52, 3)) (kk : ∀ I1 : gI, I1 = gU I y 1 i 2 x → ∀ (H1 : Heap) (locs1 : List Loc), GW E J I1 H1 → va_S (gF E) H0 H1 locs1 → W p l e R s m args below meth c H1 locs1 cells slots Q (F0 m (pc + 3) ls rest)) : W p l e R s m args below meth c H locs cells slots Q (F0 m pc ls (.int x :: .ref (gA E y 1 i) :: rest)) := g_putVN K tyX1 tyX1_ok nmX1 hG hS0 hv rfl rfl in_X1 2 (by decide) qn_H_52 rfl (ty := .int) (by decide +kernel) rfl rfl (sv_u3 rfl (fun _ _ _ _ _ => grf_u3 (by decide) _ _ _ _)) hdg (kk _ rfl)
theorem gf_X4_59 (K : kx E p m c cc "HayThieves" args s) (hG : GW E J I H) (hv : gv y 0 i = true) (hdg : decode cc pc = .ok (.getfield 59, 3)) (kk : W p l e R s m args below meth c H locs cells slots Q (F0 m (pc + 3) ls (.int (I y 0 i 7) :: rest))) : W p l e R s m args below meth c H locs cells slots Q (F0 m pc ls (.ref (gA E y 0 i) :: rest)) := g_getN K hG hv rfl rfl in_X3 7 (by decide) qn_H_59 (sv_int rfl) hdg kk
theorem pf_X4_59 (K : kx E p m c cc "HayThieves" args s) (hG : GW E J I H) (hS0 : va_S (gF E) H0 H locs) (hv : gv y 0 i = true) {x : Int32} (hdg : decode cc pc = .ok (.putfield 59, 3)) (kk : ∀ I1 : gI, I1 = gU I y 0 i 7 x → ∀ (H1 : Heap) (locs1 : List Loc), GW E J I1 H1 → va_S (gF E) H0 H1 locs1 → W p l e R s m args below meth c H1 locs1 cells slots Q (F0 m (pc + 3) ls rest)) : W p l e R s m args below meth c H locs cells slots Q (F0 m pc ls (.int x :: .ref (gA E y 0 i) :: rest)) := g_putVN K tyX3 tyX3_ok nmX3 hG hS0 hv rfl rfl in_X3 7 (by decide) qn_H_59 rfl (ty := .int) (by decide +kernel) rfl rfl (sv_u3 rfl (fun _ _ _ _ _ => grf_u3 (by decide) _ _ _ _)) hdg (kk _ rfl)
theorem gf_X4_64 (K : kx E p m c cc "HayThieves" args s) (hG : GW E J I H) (hv : gv y 0 i = true) (hdg : decode cc pc = .ok (.getfield 64, 3)) (kk : W p l e R s m args below meth c H locs cells slots Q (F0 m (pc + 3) ls (.int (I y 0 i 5) :: rest))) : W p l e R s m args below meth c H locs cells slots Q (F0 m pc ls (.ref (gA E y 0 i) :: rest)) := g_getN K hG hv rfl rfl in_X3 5 (by decide) qn_H_64 (sv_int rfl) hdg kk
theorem gf_X4_74 (K : kx E p m c cc "HayThieves" args s) (hG : GW E J I H) (hv : gv y 1 i = true) (hdg : decode cc pc = .ok (.getfield 74, 3)) (kk : W p l e R s m args below meth c H locs cells slots Q (F0 m (pc + 3) ls (.ref (gA E y 2 (I y 1 i 3).toNatClampNeg) :: rest))) : W p l e R s m args below meth c H locs cells slots Q (F0 m pc ls (.ref (gA E y 1 i) :: rest)) := g_getN K hG hv rfl rfl in_X1 3 (by decide) qn_H_74 rfl hdg kk
theorem gf_X4_78 (K : kx E p m c cc "HayThieves" args s) (hG : GW E J I H) (hv : gv y 2 i = true) (hdg : decode cc pc = .ok (.getfield 78, 3)) (kk : W p l e R s m args below meth c H locs cells slots Q (F0 m (pc + 3) ls (.int (I y 2 i 1) :: rest))) : W p l e R s m args below meth c H locs cells slots Q (F0 m pc ls (.ref (gA E y 2 i) :: rest)) := g_getN K hG hv rfl rfl in_X0 1 (by decide) qn_H_78 (sv_int rfl) hdg kk
theorem gf_X4_83 (K : kx E p m c cc "HayThieves" args s) (hG : GW E J I H) (hv : gv y 1 i = true) (hdg : decode cc pc = .ok (.getfield 83, 3)) (kk : W p l e R s m args below meth c H locs cells slots Q (F0 m (pc + 3) ls (.int (I y 1 i 7) :: rest))) : W p l e R s m args below meth c H locs cells slots Q (F0 m pc ls (.ref (gA E y 1 i) :: rest)) := g_getN K hG hv rfl rfl in_X1 7 (by decide) qn_H_83 (sv_int rfl) hdg kk
theorem pf_X4_83 (K : kx E p m c cc "HayThieves" args s) (hG : GW E J I H) (hS0 : va_S (gF E) H0 H locs) (hv : gv y 1 i = true) {x : Int32} (hx : x = 0 ∨ x = 1) (hdg : decode cc pc = .ok (.putfield 83, 3)) (kk : ∀ I1 : gI, I1 = gU I y 1 i 7 x → ∀ (H1 : Heap) (locs1 : List Loc), GW E J I1 H1 → va_S (gF E) H0 H1 locs1 → W p l e R s m args below meth c H1 locs1 cells slots Q (F0 m (pc + 3) ls rest)) : W p l e R s m args below meth c H locs cells slots Q (F0 m pc ls (.int x :: .ref (gA E y 1 i) :: rest)) := g_putVN K tyX1 tyX1_ok nmX1 hG hS0 hv rfl rfl in_X1 7 (by decide) qn_H_83 rfl (ty := .boolean) (by decide +kernel) (gnarZ hx) (gfitZ hx) (sv_u3 rfl (fun _ _ _ _ _ => grf_u3 (by decide) _ _ _ _)) hdg (kk _ rfl)
theorem gf_X4_111 (K : kx E p m c cc "HayThieves" args s) (hG : GW E J I H) (hv : gv y 0 i = true) (hdg : decode cc pc = .ok (.getfield 111, 3)) (kk : W p l e R s m args below meth c H locs cells slots Q (F0 m (pc + 3) ls (.ref (gA E y 8 0) :: rest))) : W p l e R s m args below meth c H locs cells slots Q (F0 m pc ls (.ref (gA E y 0 i) :: rest)) := g_getN K hG hv rfl rfl in_X3 1 (by decide) qn_H_111 rfl hdg kk
theorem gf_X4_125 (K : kx E p m c cc "HayThieves" args s) (hG : GW E J I H) (hv : gv y 1 i = true) (hdg : decode cc pc = .ok (.getfield 125, 3)) (kk : W p l e R s m args below meth c H locs cells slots Q (F0 m (pc + 3) ls (.int (I y 1 i 10) :: rest))) : W p l e R s m args below meth c H locs cells slots Q (F0 m pc ls (.ref (gA E y 1 i) :: rest)) := g_getN K hG hv rfl rfl in_X1 10 (by decide) qn_H_125 (sv_int rfl) hdg kk
theorem gf_X4_139 (K : kx E p m c cc "HayThieves" args s) (hG : GW E J I H) (hv : gv y 4 i = true) (hdg : decode cc pc = .ok (.getfield 139, 3)) (kk : W p l e R s m args below meth c H locs cells slots Q (F0 m (pc + 3) ls (.int (I y 4 i 1) :: rest))) : W p l e R s m args below meth c H locs cells slots Q (F0 m pc ls (.ref (gA E y 4 i) :: rest)) := g_getN K hG hv rfl rfl in_X2 1 (by decide) qn_H_139 (sv_int rfl) hdg kk
theorem gf_X5_9 (K : kx E p m c cc "HayThievesModel$State" args s) (hG : GW E J I H) (hv : gv y 20 i = true) (hdg : decode cc pc = .ok (.getfield 9, 3)) (kk : W p l e R s m args below meth c H locs cells slots Q (F0 m (pc + 3) ls (.ref (gA E y 25 0) :: rest))) : W p l e R s m args below meth c H locs cells slots Q (F0 m pc ls (.ref (gA E y 20 i) :: rest)) := g_get K hG hv rfl rfl in_X5 5 (by decide) q652 rfl hdg kk
theorem gf_X5_15 (K : kx E p m c cc "HayThievesModel$State" args s) (hG : GW E J I H) (hv : gv y 20 i = true) (hdg : decode cc pc = .ok (.getfield 15, 3)) (kk : W p l e R s m args below meth c H locs cells slots Q (F0 m (pc + 3) ls (.ref (gA E y 26 0) :: rest))) : W p l e R s m args below meth c H locs cells slots Q (F0 m pc ls (.ref (gA E y 20 i) :: rest)) := g_get K hG hv rfl rfl in_X5 6 (by decide) q654 rfl hdg kk
theorem gf_X5_18 (K : kx E p m c cc "HayThievesModel$State" args s) (hG : GW E J I H) (hv : gv y 20 i = true) (hdg : decode cc pc = .ok (.getfield 18, 3)) (kk : W p l e R s m args below meth c H locs cells slots Q (F0 m (pc + 3) ls (.ref (gA E y 27 0) :: rest))) : W p l e R s m args below meth c H locs cells slots Q (F0 m pc ls (.ref (gA E y 20 i) :: rest)) := g_get K hG hv rfl rfl in_X5 7 (by decide) q656 rfl hdg kk
theorem gf_X5_21 (K : kx E p m c cc "HayThievesModel$State" args s) (hG : GW E J I H) (hv : gv y 20 i = true) (hdg : decode cc pc = .ok (.getfield 21, 3)) (kk : W p l e R s m args below meth c H locs cells slots Q (F0 m (pc + 3) ls (.ref (gA E y 28 0) :: rest))) : W p l e R s m args below meth c H locs cells slots Q (F0 m pc ls (.ref (gA E y 20 i) :: rest)) := g_get K hG hv rfl rfl in_X5 8 (by decide) q658 rfl hdg kk
theorem gf_X5_24 (K : kx E p m c cc "HayThievesModel$State" args s) (hG : GW E J I H) (hv : gv y 20 i = true) (hdg : decode cc pc = .ok (.getfield 24, 3)) (kk : W p l e R s m args below meth c H locs cells slots Q (F0 m (pc + 3) ls (.ref (gA E y 29 0) :: rest))) : W p l e R s m args below meth c H locs cells slots Q (F0 m pc ls (.ref (gA E y 20 i) :: rest)) := g_get K hG hv rfl rfl in_X5 9 (by decide) q660 rfl hdg kk
theorem gf_X5_27 (K : kx E p m c cc "HayThievesModel$State" args s) (hG : GW E J I H) (hv : gv y 20 i = true) (hdg : decode cc pc = .ok (.getfield 27, 3)) (kk : W p l e R s m args below meth c H locs cells slots Q (F0 m (pc + 3) ls (.ref (gA E y 30 0) :: rest))) : W p l e R s m args below meth c H locs cells slots Q (F0 m pc ls (.ref (gA E y 20 i) :: rest)) := g_get K hG hv rfl rfl in_X5 10 (by decide) q662 rfl hdg kk
theorem gf_X5_30 (K : kx E p m c cc "HayThievesModel$State" args s) (hG : GW E J I H) (hv : gv y 20 i = true) (hdg : decode cc pc = .ok (.getfield 30, 3)) (kk : W p l e R s m args below meth c H locs cells slots Q (F0 m (pc + 3) ls (.ref (gA E y 31 0) :: rest))) : W p l e R s m args below meth c H locs cells slots Q (F0 m pc ls (.ref (gA E y 20 i) :: rest)) := g_get K hG hv rfl rfl in_X5 11 (by decide) q664 rfl hdg kk
theorem gf_X5_33 (K : kx E p m c cc "HayThievesModel$State" args s) (hG : GW E J I H) (hv : gv y 20 i = true) (hdg : decode cc pc = .ok (.getfield 33, 3)) (kk : W p l e R s m args below meth c H locs cells slots Q (F0 m (pc + 3) ls (.ref (gA E y 32 0) :: rest))) : W p l e R s m args below meth c H locs cells slots Q (F0 m pc ls (.ref (gA E y 20 i) :: rest)) := g_get K hG hv rfl rfl in_X5 12 (by decide) q666 rfl hdg kk
theorem gf_X5_36 (K : kx E p m c cc "HayThievesModel$State" args s) (hG : GW E J I H) (hv : gv y 20 i = true) (hdg : decode cc pc = .ok (.getfield 36, 3)) (kk : W p l e R s m args below meth c H locs cells slots Q (F0 m (pc + 3) ls (.ref (gA E y 33 0) :: rest))) : W p l e R s m args below meth c H locs cells slots Q (F0 m pc ls (.ref (gA E y 20 i) :: rest)) := g_get K hG hv rfl rfl in_X5 13 (by decide) q668 rfl hdg kk
theorem gf_X5_39 (K : kx E p m c cc "HayThievesModel$State" args s) (hG : GW E J I H) (hv : gv y 20 i = true) (hdg : decode cc pc = .ok (.getfield 39, 3)) (kk : W p l e R s m args below meth c H locs cells slots Q (F0 m (pc + 3) ls (.ref (gA E y 34 0) :: rest))) : W p l e R s m args below meth c H locs cells slots Q (F0 m pc ls (.ref (gA E y 20 i) :: rest)) := g_get K hG hv rfl rfl in_X5 14 (by decide) q670 rfl hdg kk
theorem gf_X5_42 (K : kx E p m c cc "HayThievesModel$State" args s) (hG : GW E J I H) (hv : gv y 20 i = true) (hdg : decode cc pc = .ok (.getfield 42, 3)) (kk : W p l e R s m args below meth c H locs cells slots Q (F0 m (pc + 3) ls (.ref (gA E y 35 0) :: rest))) : W p l e R s m args below meth c H locs cells slots Q (F0 m pc ls (.ref (gA E y 20 i) :: rest)) := g_get K hG hv rfl rfl in_X5 15 (by decide) q672 rfl hdg kk
theorem gf_X5_45 (K : kx E p m c cc "HayThievesModel$State" args s) (hG : GW E J I H) (hv : gv y 20 i = true) (hdg : decode cc pc = .ok (.getfield 45, 3)) (kk : W p l e R s m args below meth c H locs cells slots Q (F0 m (pc + 3) ls (.ref (gA E y 36 0) :: rest))) : W p l e R s m args below meth c H locs cells slots Q (F0 m pc ls (.ref (gA E y 20 i) :: rest)) := g_get K hG hv rfl rfl in_X5 16 (by decide) q674 rfl hdg kk
theorem gf_X5_48 (K : kx E p m c cc "HayThievesModel$State" args s) (hG : GW E J I H) (hv : gv y 20 i = true) (hdg : decode cc pc = .ok (.getfield 48, 3)) (kk : W p l e R s m args below meth c H locs cells slots Q (F0 m (pc + 3) ls (.ref (gA E y 37 0) :: rest))) : W p l e R s m args below meth c H locs cells slots Q (F0 m pc ls (.ref (gA E y 20 i) :: rest)) := g_get K hG hv rfl rfl in_X5 17 (by decide) q676 rfl hdg kk
theorem gf_X5_51 (K : kx E p m c cc "HayThievesModel$State" args s) (hG : GW E J I H) (hv : gv y 20 i = true) (hdg : decode cc pc = .ok (.getfield 51, 3)) (kk : W p l e R s m args below meth c H locs cells slots Q (F0 m (pc + 3) ls (.ref (gA E y 38 0) :: rest))) : W p l e R s m args below meth c H locs cells slots Q (F0 m pc ls (.ref (gA E y 20 i) :: rest)) := g_get K hG hv rfl rfl in_X5 18 (by decide) q678 rfl hdg kk
theorem gf_X5_54 (K : kx E p m c cc "HayThievesModel$State" args s) (hG : GW E J I H) (hv : gv y 20 i = true) (hdg : decode cc pc = .ok (.getfield 54, 3)) (kk : W p l e R s m args below meth c H locs cells slots Q (F0 m (pc + 3) ls (.ref (gA E y 40 0) :: rest))) : W p l e R s m args below meth c H locs cells slots Q (F0 m pc ls (.ref (gA E y 20 i) :: rest)) := g_get K hG hv rfl rfl in_X5 20 (by decide) q681 rfl hdg kk
theorem gf_X5_57 (K : kx E p m c cc "HayThievesModel$State" args s) (hG : GW E J I H) (hv : gv y 20 i = true) (hdg : decode cc pc = .ok (.getfield 57, 3)) (kk : W p l e R s m args below meth c H locs cells slots Q (F0 m (pc + 3) ls (.ref (gA E y 41 0) :: rest))) : W p l e R s m args below meth c H locs cells slots Q (F0 m pc ls (.ref (gA E y 20 i) :: rest)) := g_get K hG hv rfl rfl in_X5 21 (by decide) q683 rfl hdg kk
theorem gf_X5_60 (K : kx E p m c cc "HayThievesModel$State" args s) (hG : GW E J I H) (hv : gv y 20 i = true) (hdg : decode cc pc = .ok (.getfield 60, 3)) (kk : W p l e R s m args below meth c H locs cells slots Q (F0 m (pc + 3) ls (.ref (gA E y 42 0) :: rest))) : W p l e R s m args below meth c H locs cells slots Q (F0 m pc ls (.ref (gA E y 20 i) :: rest)) := g_get K hG hv rfl rfl in_X5 22 (by decide) q685 rfl hdg kk
theorem gf_X5_63 (K : kx E p m c cc "HayThievesModel$State" args s) (hG : GW E J I H) (hv : gv y 20 i = true) (hdg : decode cc pc = .ok (.getfield 63, 3)) (kk : W p l e R s m args below meth c H locs cells slots Q (F0 m (pc + 3) ls (.ref (gA E y 43 0) :: rest))) : W p l e R s m args below meth c H locs cells slots Q (F0 m pc ls (.ref (gA E y 20 i) :: rest)) := g_get K hG hv rfl rfl in_X5 23 (by decide) q687 rfl hdg kk
theorem gf_X5_66 (K : kx E p m c cc "HayThievesModel$State" args s) (hG : GW E J I H) (hv : gv y 20 i = true) (hdg : decode cc pc = .ok (.getfield 66, 3)) (kk : W p l e R s m args below meth c H locs cells slots Q (F0 m (pc + 3) ls (.ref (gA E y 44 0) :: rest))) : W p l e R s m args below meth c H locs cells slots Q (F0 m pc ls (.ref (gA E y 20 i) :: rest)) := g_get K hG hv rfl rfl in_X5 24 (by decide) q688 rfl hdg kk
theorem gf_X5_69 (K : kx E p m c cc "HayThievesModel$State" args s) (hG : GW E J I H) (hv : gv y 20 i = true) (hdg : decode cc pc = .ok (.getfield 69, 3)) (kk : W p l e R s m args below meth c H locs cells slots Q (F0 m (pc + 3) ls (.ref (gA E y 45 0) :: rest))) : W p l e R s m args below meth c H locs cells slots Q (F0 m pc ls (.ref (gA E y 20 i) :: rest)) := g_get K hG hv rfl rfl in_X5 25 (by decide) q689 rfl hdg kk
theorem gf_X5_78 (K : kx E p m c cc "HayThievesModel$State" args s) (hG : GW E J I H) (hv : gv y 20 i = true) (hdg : decode cc pc = .ok (.getfield 78, 3)) (kk : W p l e R s m args below meth c H locs cells slots Q (F0 m (pc + 3) ls (.int (I y 20 i 0) :: rest))) : W p l e R s m args below meth c H locs cells slots Q (F0 m pc ls (.ref (gA E y 20 i) :: rest)) := g_get K hG hv rfl rfl in_X5 0 (by decide) q642 (sv_int rfl) hdg kk
theorem pf_X5_78 (K : kx E p m c cc "HayThievesModel$State" args s) (hG : GW E J I H) (hS0 : va_S (gF E) H0 H locs) (hv : gv y 20 i = true) {x : Int32} (hdg : decode cc pc = .ok (.putfield 78, 3)) (kk : ∀ I1 : gI, I1 = gU I y 20 i 0 x → ∀ (H1 : Heap) (locs1 : List Loc), GW E J I1 H1 → va_S (gF E) H0 H1 locs1 → W p l e R s m args below meth c H1 locs1 cells slots Q (F0 m (pc + 3) ls rest)) : W p l e R s m args below meth c H locs cells slots Q (F0 m pc ls (.int x :: .ref (gA E y 20 i) :: rest)) := g_putV K tyX5 tyX5_ok nmX5 hG hS0 hv rfl rfl in_X5 0 (by decide) q642 rfl (ty := .int) (by decide +kernel) rfl rfl (sv_u3 rfl (fun _ _ _ _ _ => grf_u3 (by decide) _ _ _ _)) hdg (kk _ rfl)
theorem gf_X5_82 (K : kx E p m c cc "HayThievesModel$State" args s) (hG : GW E J I H) (hv : gv y 20 i = true) (hdg : decode cc pc = .ok (.getfield 82, 3)) (kk : W p l e R s m args below meth c H locs cells slots Q (F0 m (pc + 3) ls (.int (I y 20 i 1) :: rest))) : W p l e R s m args below meth c H locs cells slots Q (F0 m pc ls (.ref (gA E y 20 i) :: rest)) := g_get K hG hv rfl rfl in_X5 1 (by decide) q644 (sv_int rfl) hdg kk
theorem pf_X5_82 (K : kx E p m c cc "HayThievesModel$State" args s) (hG : GW E J I H) (hS0 : va_S (gF E) H0 H locs) (hv : gv y 20 i = true) {x : Int32} (hdg : decode cc pc = .ok (.putfield 82, 3)) (kk : ∀ I1 : gI, I1 = gU I y 20 i 1 x → ∀ (H1 : Heap) (locs1 : List Loc), GW E J I1 H1 → va_S (gF E) H0 H1 locs1 → W p l e R s m args below meth c H1 locs1 cells slots Q (F0 m (pc + 3) ls rest)) : W p l e R s m args below meth c H locs cells slots Q (F0 m pc ls (.int x :: .ref (gA E y 20 i) :: rest)) := g_putV K tyX5 tyX5_ok nmX5 hG hS0 hv rfl rfl in_X5 1 (by decide) q644 rfl (ty := .int) (by decide +kernel) rfl rfl (sv_u3 rfl (fun _ _ _ _ _ => grf_u3 (by decide) _ _ _ _)) hdg (kk _ rfl)
theorem gf_X5_85 (K : kx E p m c cc "HayThievesModel$State" args s) (hG : GW E J I H) (hv : gv y 20 i = true) (hdg : decode cc pc = .ok (.getfield 85, 3)) (kk : W p l e R s m args below meth c H locs cells slots Q (F0 m (pc + 3) ls (.int (I y 20 i 2) :: rest))) : W p l e R s m args below meth c H locs cells slots Q (F0 m pc ls (.ref (gA E y 20 i) :: rest)) := g_get K hG hv rfl rfl in_X5 2 (by decide) q646 (sv_int rfl) hdg kk
theorem pf_X5_85 (K : kx E p m c cc "HayThievesModel$State" args s) (hG : GW E J I H) (hS0 : va_S (gF E) H0 H locs) (hv : gv y 20 i = true) {x : Int32} (hdg : decode cc pc = .ok (.putfield 85, 3)) (kk : ∀ I1 : gI, I1 = gU I y 20 i 2 x → ∀ (H1 : Heap) (locs1 : List Loc), GW E J I1 H1 → va_S (gF E) H0 H1 locs1 → W p l e R s m args below meth c H1 locs1 cells slots Q (F0 m (pc + 3) ls rest)) : W p l e R s m args below meth c H locs cells slots Q (F0 m pc ls (.int x :: .ref (gA E y 20 i) :: rest)) := g_putV K tyX5 tyX5_ok nmX5 hG hS0 hv rfl rfl in_X5 2 (by decide) q646 rfl (ty := .int) (by decide +kernel) rfl rfl (sv_u3 rfl (fun _ _ _ _ _ => grf_u3 (by decide) _ _ _ _)) hdg (kk _ rfl)
theorem gf_X5_88 (K : kx E p m c cc "HayThievesModel$State" args s) (hG : GW E J I H) (hv : gv y 20 i = true) (hdg : decode cc pc = .ok (.getfield 88, 3)) (kk : W p l e R s m args below meth c H locs cells slots Q (F0 m (pc + 3) ls (.int (I y 20 i 3) :: rest))) : W p l e R s m args below meth c H locs cells slots Q (F0 m pc ls (.ref (gA E y 20 i) :: rest)) := g_get K hG hv rfl rfl in_X5 3 (by decide) q648 (sv_int rfl) hdg kk
theorem pf_X5_88 (K : kx E p m c cc "HayThievesModel$State" args s) (hG : GW E J I H) (hS0 : va_S (gF E) H0 H locs) (hv : gv y 20 i = true) {x : Int32} (hdg : decode cc pc = .ok (.putfield 88, 3)) (kk : ∀ I1 : gI, I1 = gU I y 20 i 3 x → ∀ (H1 : Heap) (locs1 : List Loc), GW E J I1 H1 → va_S (gF E) H0 H1 locs1 → W p l e R s m args below meth c H1 locs1 cells slots Q (F0 m (pc + 3) ls rest)) : W p l e R s m args below meth c H locs cells slots Q (F0 m pc ls (.int x :: .ref (gA E y 20 i) :: rest)) := g_putV K tyX5 tyX5_ok nmX5 hG hS0 hv rfl rfl in_X5 3 (by decide) q648 rfl (ty := .int) (by decide +kernel) rfl rfl (sv_u3 rfl (fun _ _ _ _ _ => grf_u3 (by decide) _ _ _ _)) hdg (kk _ rfl)
theorem gf_X5_91 (K : kx E p m c cc "HayThievesModel$State" args s) (hG : GW E J I H) (hv : gv y 20 i = true) (hdg : decode cc pc = .ok (.getfield 91, 3)) (kk : W p l e R s m args below meth c H locs cells slots Q (F0 m (pc + 3) ls (.int (I y 20 i 4) :: rest))) : W p l e R s m args below meth c H locs cells slots Q (F0 m pc ls (.ref (gA E y 20 i) :: rest)) := g_get K hG hv rfl rfl in_X5 4 (by decide) q650 (sv_int rfl) hdg kk
theorem pf_X5_91 (K : kx E p m c cc "HayThievesModel$State" args s) (hG : GW E J I H) (hS0 : va_S (gF E) H0 H locs) (hv : gv y 20 i = true) {x : Int32} (hdg : decode cc pc = .ok (.putfield 91, 3)) (kk : ∀ I1 : gI, I1 = gU I y 20 i 4 x → ∀ (H1 : Heap) (locs1 : List Loc), GW E J I1 H1 → va_S (gF E) H0 H1 locs1 → W p l e R s m args below meth c H1 locs1 cells slots Q (F0 m (pc + 3) ls rest)) : W p l e R s m args below meth c H locs cells slots Q (F0 m pc ls (.int x :: .ref (gA E y 20 i) :: rest)) := g_putV K tyX5 tyX5_ok nmX5 hG hS0 hv rfl rfl in_X5 4 (by decide) q650 rfl (ty := .int) (by decide +kernel) rfl rfl (sv_u3 rfl (fun _ _ _ _ _ => grf_u3 (by decide) _ _ _ _)) hdg (kk _ rfl)
theorem gf_X5_94 (K : kx E p m c cc "HayThievesModel$State" args s) (hG : GW E J I H) (hv : gv y 20 i = true) (hdg : decode cc pc = .ok (.getfield 94, 3)) (kk : W p l e R s m args below meth c H locs cells slots Q (F0 m (pc + 3) ls (.int (I y 20 i 19) :: rest))) : W p l e R s m args below meth c H locs cells slots Q (F0 m pc ls (.ref (gA E y 20 i) :: rest)) := g_get K hG hv rfl rfl in_X5 19 (by decide) q680 (sv_int rfl) hdg kk
theorem pf_X5_94 (K : kx E p m c cc "HayThievesModel$State" args s) (hG : GW E J I H) (hS0 : va_S (gF E) H0 H locs) (hv : gv y 20 i = true) {x : Int32} (hdg : decode cc pc = .ok (.putfield 94, 3)) (kk : ∀ I1 : gI, I1 = gU I y 20 i 19 x → ∀ (H1 : Heap) (locs1 : List Loc), GW E J I1 H1 → va_S (gF E) H0 H1 locs1 → W p l e R s m args below meth c H1 locs1 cells slots Q (F0 m (pc + 3) ls rest)) : W p l e R s m args below meth c H locs cells slots Q (F0 m pc ls (.int x :: .ref (gA E y 20 i) :: rest)) := g_putV K tyX5 tyX5_ok nmX5 hG hS0 hv rfl rfl in_X5 19 (by decide) q680 rfl (ty := .int) (by decide +kernel) rfl rfl (sv_u3 rfl (fun _ _ _ _ _ => grf_u3 (by decide) _ _ _ _)) hdg (kk _ rfl)
theorem gf_X6_9 (K : kx E p m c cc "HayThievesModel" args s) (hG : GW E J I H) (hv : gv y 11 i = true) (hdg : decode cc pc = .ok (.getfield 9, 3)) (kk : W p l e R s m args below meth c H locs cells slots Q (F0 m (pc + 3) ls (.ref (gA E 2 12 0) :: rest))) : W p l e R s m args below meth c H locs cells slots Q (F0 m pc ls (.ref (gA E y 11 i) :: rest)) := g_get K hG hv rfl rfl in_X6 2 (by decide) q745 rfl hdg kk
theorem gf_X6_13 (K : kx E p m c cc "HayThievesModel" args s) (hG : GW E J I H) (hv : gv y 11 i = true) (hdg : decode cc pc = .ok (.getfield 13, 3)) (kk : W p l e R s m args below meth c H locs cells slots Q (F0 m (pc + 3) ls (.ref (gA E 2 13 0) :: rest))) : W p l e R s m args below meth c H locs cells slots Q (F0 m pc ls (.ref (gA E y 11 i) :: rest)) := g_get K hG hv rfl rfl in_X6 3 (by decide) q746 rfl hdg kk
theorem gf_X6_16 (K : kx E p m c cc "HayThievesModel" args s) (hG : GW E J I H) (hv : gv y 11 i = true) (hdg : decode cc pc = .ok (.getfield 16, 3)) (kk : W p l e R s m args below meth c H locs cells slots Q (F0 m (pc + 3) ls (.ref (gA E 2 14 0) :: rest))) : W p l e R s m args below meth c H locs cells slots Q (F0 m pc ls (.ref (gA E y 11 i) :: rest)) := g_get K hG hv rfl rfl in_X6 5 (by decide) q748 rfl hdg kk
theorem gf_X6_19 (K : kx E p m c cc "HayThievesModel" args s) (hG : GW E J I H) (hv : gv y 11 i = true) (hdg : decode cc pc = .ok (.getfield 19, 3)) (kk : W p l e R s m args below meth c H locs cells slots Q (F0 m (pc + 3) ls (.ref (gA E 2 15 0) :: rest))) : W p l e R s m args below meth c H locs cells slots Q (F0 m pc ls (.ref (gA E y 11 i) :: rest)) := g_get K hG hv rfl rfl in_X6 6 (by decide) q749 rfl hdg kk
theorem gf_X6_22 (K : kx E p m c cc "HayThievesModel" args s) (hG : GW E J I H) (hv : gv y 11 i = true) (hdg : decode cc pc = .ok (.getfield 22, 3)) (kk : W p l e R s m args below meth c H locs cells slots Q (F0 m (pc + 3) ls (.int (I y 11 i 7) :: rest))) : W p l e R s m args below meth c H locs cells slots Q (F0 m pc ls (.ref (gA E y 11 i) :: rest)) := g_get K hG hv rfl rfl in_X6 7 (by decide) q750 (sv_int rfl) hdg kk
theorem pf_X6_22 (K : kx E p m c cc "HayThievesModel" args s) (hG : GW E J I H) (hS0 : va_S (gF E) H0 H locs) (hv : gv y 11 i = true) {x : Int32} (hdg : decode cc pc = .ok (.putfield 22, 3)) (kk : ∀ I1 : gI, I1 = gU I y 11 i 7 x → ∀ (H1 : Heap) (locs1 : List Loc), GW E J I1 H1 → va_S (gF E) H0 H1 locs1 → W p l e R s m args below meth c H1 locs1 cells slots Q (F0 m (pc + 3) ls rest)) : W p l e R s m args below meth c H locs cells slots Q (F0 m pc ls (.int x :: .ref (gA E y 11 i) :: rest)) := g_putV K tyX6 tyX6_ok nmX6 hG hS0 hv rfl rfl in_X6 7 (by decide) q750 rfl (ty := .int) (by decide +kernel) rfl rfl (sv_u3 rfl (fun _ _ _ _ _ => grf_u3 (by decide) _ _ _ _)) hdg (kk _ rfl)
theorem gf_X6_29 (K : kx E p m c cc "HayThievesModel" args s) (hG : GW E J I H) (hv : gv y 11 i = true) (hdg : decode cc pc = .ok (.getfield 29, 3)) (kk : W p l e R s m args below meth c H locs cells slots Q (F0 m (pc + 3) ls (.ref (gA E 3 20 0) :: rest))) : W p l e R s m args below meth c H locs cells slots Q (F0 m pc ls (.ref (gA E y 11 i) :: rest)) := g_get K hG hv rfl rfl in_X6 8 (by decide) q751 rfl hdg kk
theorem gf_X6_33 (K : kx E p m c cc "HayThievesModel" args s) (hG : GW E J I H) (hv : gv y 11 i = true) (hdg : decode cc pc = .ok (.getfield 33, 3)) (kk : W p l e R s m args below meth c H locs cells slots Q (F0 m (pc + 3) ls (.ref (gA E 4 20 0) :: rest))) : W p l e R s m args below meth c H locs cells slots Q (F0 m pc ls (.ref (gA E y 11 i) :: rest)) := g_get K hG hv rfl rfl in_X6 9 (by decide) q752 rfl hdg kk
theorem gf_X6_36 (K : kx E p m c cc "HayThievesModel" args s) (hG : GW E J I H) (hv : gv y 11 i = true) (hdg : decode cc pc = .ok (.getfield 36, 3)) (kk : W p l e R s m args below meth c H locs cells slots Q (F0 m (pc + 3) ls (.int (I y 11 i 0) :: rest))) : W p l e R s m args below meth c H locs cells slots Q (F0 m pc ls (.ref (gA E y 11 i) :: rest)) := g_get K hG hv rfl rfl in_X6 0 (by decide) q743 (sv_int rfl) hdg kk
theorem pf_X6_36 (K : kx E p m c cc "HayThievesModel" args s) (hG : GW E J I H) (hS0 : va_S (gF E) H0 H locs) (hv : gv y 11 i = true) {x : Int32} (hdg : decode cc pc = .ok (.putfield 36, 3)) (kk : ∀ I1 : gI, I1 = gU I y 11 i 0 x → ∀ (H1 : Heap) (locs1 : List Loc), GW E J I1 H1 → va_S (gF E) H0 H1 locs1 → W p l e R s m args below meth c H1 locs1 cells slots Q (F0 m (pc + 3) ls rest)) : W p l e R s m args below meth c H locs cells slots Q (F0 m pc ls (.int x :: .ref (gA E y 11 i) :: rest)) := g_putV K tyX6 tyX6_ok nmX6 hG hS0 hv rfl rfl in_X6 0 (by decide) q743 rfl (ty := .int) (by decide +kernel) rfl rfl (sv_u3 rfl (fun _ _ _ _ _ => grf_u3 (by decide) _ _ _ _)) hdg (kk _ rfl)
theorem gf_X6_39 (K : kx E p m c cc "HayThievesModel" args s) (hG : GW E J I H) (hv : gv y 11 i = true) (hdg : decode cc pc = .ok (.getfield 39, 3)) (kk : W p l e R s m args below meth c H locs cells slots Q (F0 m (pc + 3) ls (.int (I y 11 i 1) :: rest))) : W p l e R s m args below meth c H locs cells slots Q (F0 m pc ls (.ref (gA E y 11 i) :: rest)) := g_get K hG hv rfl rfl in_X6 1 (by decide) q744 (sv_int rfl) hdg kk
theorem pf_X6_39 (K : kx E p m c cc "HayThievesModel" args s) (hG : GW E J I H) (hS0 : va_S (gF E) H0 H locs) (hv : gv y 11 i = true) {x : Int32} (hdg : decode cc pc = .ok (.putfield 39, 3)) (kk : ∀ I1 : gI, I1 = gU I y 11 i 1 x → ∀ (H1 : Heap) (locs1 : List Loc), GW E J I1 H1 → va_S (gF E) H0 H1 locs1 → W p l e R s m args below meth c H1 locs1 cells slots Q (F0 m (pc + 3) ls rest)) : W p l e R s m args below meth c H locs cells slots Q (F0 m pc ls (.int x :: .ref (gA E y 11 i) :: rest)) := g_putV K tyX6 tyX6_ok nmX6 hG hS0 hv rfl rfl in_X6 1 (by decide) q744 rfl (ty := .int) (by decide +kernel) rfl rfl (sv_u3 rfl (fun _ _ _ _ _ => grf_u3 (by decide) _ _ _ _)) hdg (kk _ rfl)
theorem gf_X6_46 (K : kx E p m c cc "HayThievesModel" args s) (hG : GW E J I H) (hv : gv y 11 i = true) (hdg : decode cc pc = .ok (.getfield 46, 3)) (kk : W p l e R s m args below meth c H locs cells slots Q (F0 m (pc + 3) ls (.int (I y 11 i 4) :: rest))) : W p l e R s m args below meth c H locs cells slots Q (F0 m pc ls (.ref (gA E y 11 i) :: rest)) := g_get K hG hv rfl rfl in_X6 4 (by decide) q747 (sv_int rfl) hdg kk
theorem pf_X6_46 (K : kx E p m c cc "HayThievesModel" args s) (hG : GW E J I H) (hS0 : va_S (gF E) H0 H locs) (hv : gv y 11 i = true) {x : Int32} (hdg : decode cc pc = .ok (.putfield 46, 3)) (kk : ∀ I1 : gI, I1 = gU I y 11 i 4 x → ∀ (H1 : Heap) (locs1 : List Loc), GW E J I1 H1 → va_S (gF E) H0 H1 locs1 → W p l e R s m args below meth c H1 locs1 cells slots Q (F0 m (pc + 3) ls rest)) : W p l e R s m args below meth c H locs cells slots Q (F0 m pc ls (.int x :: .ref (gA E y 11 i) :: rest)) := g_putV K tyX6 tyX6_ok nmX6 hG hS0 hv rfl rfl in_X6 4 (by decide) q747 rfl (ty := .int) (by decide +kernel) rfl rfl (sv_u3 rfl (fun _ _ _ _ _ => grf_u3 (by decide) _ _ _ _)) hdg (kk _ rfl)
theorem gf_X6_49 (K : kx E p m c cc "HayThievesModel" args s) (hG : GW E J I H) (hv : gv y 20 i = true) (hdg : decode cc pc = .ok (.getfield 49, 3)) (kk : W p l e R s m args below meth c H locs cells slots Q (F0 m (pc + 3) ls (.ref (gA E y 31 0) :: rest))) : W p l e R s m args below meth c H locs cells slots Q (F0 m pc ls (.ref (gA E y 20 i) :: rest)) := g_getN K hG hv rfl rfl in_X5 11 (by decide) qn_HModel_49 rfl hdg kk
theorem gf_X6_52 (K : kx E p m c cc "HayThievesModel" args s) (hG : GW E J I H) (hv : gv y 20 i = true) (hdg : decode cc pc = .ok (.getfield 52, 3)) (kk : W p l e R s m args below meth c H locs cells slots Q (F0 m (pc + 3) ls (.ref (gA E y 40 0) :: rest))) : W p l e R s m args below meth c H locs cells slots Q (F0 m pc ls (.ref (gA E y 20 i) :: rest)) := g_getN K hG hv rfl rfl in_X5 20 (by decide) qn_HModel_52 rfl hdg kk
theorem gf_X6_63 (K : kx E p m c cc "HayThievesModel" args s) (hG : GW E J I H) (hv : gv y 20 i = true) (hdg : decode cc pc = .ok (.getfield 63, 3)) (kk : W p l e R s m args below meth c H locs cells slots Q (F0 m (pc + 3) ls (.ref (gA E y 33 0) :: rest))) : W p l e R s m args below meth c H locs cells slots Q (F0 m pc ls (.ref (gA E y 20 i) :: rest)) := g_getN K hG hv rfl rfl in_X5 13 (by decide) qn_HModel_63 rfl hdg kk
theorem gf_X6_66 (K : kx E p m c cc "HayThievesModel" args s) (hG : GW E J I H) (hv : gv y 20 i = true) (hdg : decode cc pc = .ok (.getfield 66, 3)) (kk : W p l e R s m args below meth c H locs cells slots Q (F0 m (pc + 3) ls (.ref (gA E y 25 0) :: rest))) : W p l e R s m args below meth c H locs cells slots Q (F0 m pc ls (.ref (gA E y 20 i) :: rest)) := g_getN K hG hv rfl rfl in_X5 5 (by decide) qn_HModel_66 rfl hdg kk
theorem gf_X6_69 (K : kx E p m c cc "HayThievesModel" args s) (hG : GW E J I H) (hv : gv y 20 i = true) (hdg : decode cc pc = .ok (.getfield 69, 3)) (kk : W p l e R s m args below meth c H locs cells slots Q (F0 m (pc + 3) ls (.int (I y 20 i 3) :: rest))) : W p l e R s m args below meth c H locs cells slots Q (F0 m pc ls (.ref (gA E y 20 i) :: rest)) := g_getN K hG hv rfl rfl in_X5 3 (by decide) qn_HModel_69 (sv_int rfl) hdg kk
theorem pf_X6_69 (K : kx E p m c cc "HayThievesModel" args s) (hG : GW E J I H) (hS0 : va_S (gF E) H0 H locs) (hv : gv y 20 i = true) {x : Int32} (hdg : decode cc pc = .ok (.putfield 69, 3)) (kk : ∀ I1 : gI, I1 = gU I y 20 i 3 x → ∀ (H1 : Heap) (locs1 : List Loc), GW E J I1 H1 → va_S (gF E) H0 H1 locs1 → W p l e R s m args below meth c H1 locs1 cells slots Q (F0 m (pc + 3) ls rest)) : W p l e R s m args below meth c H locs cells slots Q (F0 m pc ls (.int x :: .ref (gA E y 20 i) :: rest)) := g_putVN K tyX5 tyX5_ok nmX5 hG hS0 hv rfl rfl in_X5 3 (by decide) qn_HModel_69 rfl (ty := .int) (by decide +kernel) rfl rfl (sv_u3 rfl (fun _ _ _ _ _ => grf_u3 (by decide) _ _ _ _)) hdg (kk _ rfl)
theorem gf_X6_72 (K : kx E p m c cc "HayThievesModel" args s) (hG : GW E J I H) (hv : gv y 20 i = true) (hdg : decode cc pc = .ok (.getfield 72, 3)) (kk : W p l e R s m args below meth c H locs cells slots Q (F0 m (pc + 3) ls (.ref (gA E y 27 0) :: rest))) : W p l e R s m args below meth c H locs cells slots Q (F0 m pc ls (.ref (gA E y 20 i) :: rest)) := g_getN K hG hv rfl rfl in_X5 7 (by decide) qn_HModel_72 rfl hdg kk
theorem gf_X6_75 (K : kx E p m c cc "HayThievesModel" args s) (hG : GW E J I H) (hv : gv y 20 i = true) (hdg : decode cc pc = .ok (.getfield 75, 3)) (kk : W p l e R s m args below meth c H locs cells slots Q (F0 m (pc + 3) ls (.ref (gA E y 26 0) :: rest))) : W p l e R s m args below meth c H locs cells slots Q (F0 m pc ls (.ref (gA E y 20 i) :: rest)) := g_getN K hG hv rfl rfl in_X5 6 (by decide) qn_HModel_75 rfl hdg kk
theorem gf_X6_88 (K : kx E p m c cc "HayThievesModel" args s) (hG : GW E J I H) (hv : gv y 20 i = true) (hdg : decode cc pc = .ok (.getfield 88, 3)) (kk : W p l e R s m args below meth c H locs cells slots Q (F0 m (pc + 3) ls (.ref (gA E y 41 0) :: rest))) : W p l e R s m args below meth c H locs cells slots Q (F0 m pc ls (.ref (gA E y 20 i) :: rest)) := g_getN K hG hv rfl rfl in_X5 21 (by decide) qn_HModel_88 rfl hdg kk
theorem gf_X6_113 (K : kx E p m c cc "HayThievesModel" args s) (hG : GW E J I H) (hv : gv y 20 i = true) (hdg : decode cc pc = .ok (.getfield 113, 3)) (kk : W p l e R s m args below meth c H locs cells slots Q (F0 m (pc + 3) ls (.ref (gA E y 34 0) :: rest))) : W p l e R s m args below meth c H locs cells slots Q (F0 m pc ls (.ref (gA E y 20 i) :: rest)) := g_getN K hG hv rfl rfl in_X5 14 (by decide) qn_HModel_113 rfl hdg kk
theorem gf_X6_120 (K : kx E p m c cc "HayThievesModel" args s) (hG : GW E J I H) (hv : gv y 20 i = true) (hdg : decode cc pc = .ok (.getfield 120, 3)) (kk : W p l e R s m args below meth c H locs cells slots Q (F0 m (pc + 3) ls (.int (I y 20 i 0) :: rest))) : W p l e R s m args below meth c H locs cells slots Q (F0 m pc ls (.ref (gA E y 20 i) :: rest)) := g_getN K hG hv rfl rfl in_X5 0 (by decide) qn_HModel_120 (sv_int rfl) hdg kk
theorem pf_X6_120 (K : kx E p m c cc "HayThievesModel" args s) (hG : GW E J I H) (hS0 : va_S (gF E) H0 H locs) (hv : gv y 20 i = true) {x : Int32} (hdg : decode cc pc = .ok (.putfield 120, 3)) (kk : ∀ I1 : gI, I1 = gU I y 20 i 0 x → ∀ (H1 : Heap) (locs1 : List Loc), GW E J I1 H1 → va_S (gF E) H0 H1 locs1 → W p l e R s m args below meth c H1 locs1 cells slots Q (F0 m (pc + 3) ls rest)) : W p l e R s m args below meth c H locs cells slots Q (F0 m pc ls (.int x :: .ref (gA E y 20 i) :: rest)) := g_putVN K tyX5 tyX5_ok nmX5 hG hS0 hv rfl rfl in_X5 0 (by decide) qn_HModel_120 rfl (ty := .int) (by decide +kernel) rfl rfl (sv_u3 rfl (fun _ _ _ _ _ => grf_u3 (by decide) _ _ _ _)) hdg (kk _ rfl)
theorem gf_X6_134 (K : kx E p m c cc "HayThievesModel" args s) (hG : GW E J I H) (hv : gv y 20 i = true) (hdg : decode cc pc = .ok (.getfield 134, 3)) (kk : W p l e R s m args below meth c H locs cells slots Q (F0 m (pc + 3) ls (.ref (gA E y 35 0) :: rest))) : W p l e R s m args below meth c H locs cells slots Q (F0 m pc ls (.ref (gA E y 20 i) :: rest)) := g_getN K hG hv rfl rfl in_X5 15 (by decide) qn_HModel_134 rfl hdg kk
theorem gf_X6_137 (K : kx E p m c cc "HayThievesModel" args s) (hG : GW E J I H) (hv : gv y 20 i = true) (hdg : decode cc pc = .ok (.getfield 137, 3)) (kk : W p l e R s m args below meth c H locs cells slots Q (F0 m (pc + 3) ls (.ref (gA E y 36 0) :: rest))) : W p l e R s m args below meth c H locs cells slots Q (F0 m pc ls (.ref (gA E y 20 i) :: rest)) := g_getN K hG hv rfl rfl in_X5 16 (by decide) qn_HModel_137 rfl hdg kk
theorem gf_X6_144 (K : kx E p m c cc "HayThievesModel" args s) (hG : GW E J I H) (hv : gv y 20 i = true) (hdg : decode cc pc = .ok (.getfield 144, 3)) (kk : W p l e R s m args below meth c H locs cells slots Q (F0 m (pc + 3) ls (.ref (gA E y 32 0) :: rest))) : W p l e R s m args below meth c H locs cells slots Q (F0 m pc ls (.ref (gA E y 20 i) :: rest)) := g_getN K hG hv rfl rfl in_X5 12 (by decide) qn_HModel_144 rfl hdg kk
theorem gf_X6_150 (K : kx E p m c cc "HayThievesModel" args s) (hG : GW E J I H) (hv : gv y 20 i = true) (hdg : decode cc pc = .ok (.getfield 150, 3)) (kk : W p l e R s m args below meth c H locs cells slots Q (F0 m (pc + 3) ls (.ref (gA E y 42 0) :: rest))) : W p l e R s m args below meth c H locs cells slots Q (F0 m pc ls (.ref (gA E y 20 i) :: rest)) := g_getN K hG hv rfl rfl in_X5 22 (by decide) qn_HModel_150 rfl hdg kk
theorem gf_X6_153 (K : kx E p m c cc "HayThievesModel" args s) (hG : GW E J I H) (hv : gv y 20 i = true) (hdg : decode cc pc = .ok (.getfield 153, 3)) (kk : W p l e R s m args below meth c H locs cells slots Q (F0 m (pc + 3) ls (.ref (gA E y 28 0) :: rest))) : W p l e R s m args below meth c H locs cells slots Q (F0 m pc ls (.ref (gA E y 20 i) :: rest)) := g_getN K hG hv rfl rfl in_X5 8 (by decide) qn_HModel_153 rfl hdg kk
theorem gf_X6_156 (K : kx E p m c cc "HayThievesModel" args s) (hG : GW E J I H) (hv : gv y 20 i = true) (hdg : decode cc pc = .ok (.getfield 156, 3)) (kk : W p l e R s m args below meth c H locs cells slots Q (F0 m (pc + 3) ls (.ref (gA E y 29 0) :: rest))) : W p l e R s m args below meth c H locs cells slots Q (F0 m pc ls (.ref (gA E y 20 i) :: rest)) := g_getN K hG hv rfl rfl in_X5 9 (by decide) qn_HModel_156 rfl hdg kk
theorem gf_X6_159 (K : kx E p m c cc "HayThievesModel" args s) (hG : GW E J I H) (hv : gv y 20 i = true) (hdg : decode cc pc = .ok (.getfield 159, 3)) (kk : W p l e R s m args below meth c H locs cells slots Q (F0 m (pc + 3) ls (.ref (gA E y 30 0) :: rest))) : W p l e R s m args below meth c H locs cells slots Q (F0 m pc ls (.ref (gA E y 20 i) :: rest)) := g_getN K hG hv rfl rfl in_X5 10 (by decide) qn_HModel_159 rfl hdg kk
theorem gf_X6_169 (K : kx E p m c cc "HayThievesModel" args s) (hG : GW E J I H) (hv : gv y 20 i = true) (hdg : decode cc pc = .ok (.getfield 169, 3)) (kk : W p l e R s m args below meth c H locs cells slots Q (F0 m (pc + 3) ls (.ref (gA E y 37 0) :: rest))) : W p l e R s m args below meth c H locs cells slots Q (F0 m pc ls (.ref (gA E y 20 i) :: rest)) := g_getN K hG hv rfl rfl in_X5 17 (by decide) qn_HModel_169 rfl hdg kk
theorem gf_X6_172 (K : kx E p m c cc "HayThievesModel" args s) (hG : GW E J I H) (hv : gv y 20 i = true) (hdg : decode cc pc = .ok (.getfield 172, 3)) (kk : W p l e R s m args below meth c H locs cells slots Q (F0 m (pc + 3) ls (.ref (gA E y 38 0) :: rest))) : W p l e R s m args below meth c H locs cells slots Q (F0 m pc ls (.ref (gA E y 20 i) :: rest)) := g_getN K hG hv rfl rfl in_X5 18 (by decide) qn_HModel_172 rfl hdg kk
theorem gf_X6_188 (K : kx E p m c cc "HayThievesModel" args s) (hG : GW E J I H) (hv : gv y 20 i = true) (hdg : decode cc pc = .ok (.getfield 188, 3)) (kk : W p l e R s m args below meth c H locs cells slots Q (F0 m (pc + 3) ls (.int (I y 20 i 1) :: rest))) : W p l e R s m args below meth c H locs cells slots Q (F0 m pc ls (.ref (gA E y 20 i) :: rest)) := g_getN K hG hv rfl rfl in_X5 1 (by decide) qn_HModel_188 (sv_int rfl) hdg kk
theorem gf_X6_191 (K : kx E p m c cc "HayThievesModel" args s) (hG : GW E J I H) (hv : gv y 20 i = true) (hdg : decode cc pc = .ok (.getfield 191, 3)) (kk : W p l e R s m args below meth c H locs cells slots Q (F0 m (pc + 3) ls (.int (I y 20 i 2) :: rest))) : W p l e R s m args below meth c H locs cells slots Q (F0 m pc ls (.ref (gA E y 20 i) :: rest)) := g_getN K hG hv rfl rfl in_X5 2 (by decide) qn_HModel_191 (sv_int rfl) hdg kk
theorem gf_X6_194 (K : kx E p m c cc "HayThievesModel" args s) (hG : GW E J I H) (hv : gv y 20 i = true) (hdg : decode cc pc = .ok (.getfield 194, 3)) (kk : W p l e R s m args below meth c H locs cells slots Q (F0 m (pc + 3) ls (.int (I y 20 i 4) :: rest))) : W p l e R s m args below meth c H locs cells slots Q (F0 m pc ls (.ref (gA E y 20 i) :: rest)) := g_getN K hG hv rfl rfl in_X5 4 (by decide) qn_HModel_194 (sv_int rfl) hdg kk
end GFld
theorem ca_X4_thief : gcal yX4_thief cX4_thief 4 (some .int) 0 := ⟨q190, q1, q188, q189, by decide +kernel⟩
theorem ca_X4_mean : gcal yX4_mean cX4_mean 1 (some .double) 0 := ⟨q194, q1, q192, q193, by decide +kernel⟩
theorem ca_X3_tell : gcal yX3_tell cX3_tell 2 (some .int) 1 := ⟨q198, q2, q196, q197, by decide +kernel⟩
theorem ca_X3_loadsThatAre : gcal yX3_loadsThatAre cX3_loadsThatAre 4 (some .int) 1 := ⟨q202, q2, q200, q201, by decide +kernel⟩
theorem ca_X3_sumOverLads : gcal yX3_sumOverLads cX3_sumOverLads 4 (some .int) 1 := ⟨q206, q2, q204, q205, by decide +kernel⟩
theorem ca_X1_tell : gcal yX1_tell cX1_tell 2 (some .int) 1 := ⟨q210, q3, q208, q209, by decide +kernel⟩
theorem ca_X1_doing : gcal yX1_doing cX1_doing 1 (some .int) 0 := ⟨q214, q3, q212, q213, by decide +kernel⟩
theorem ca_X1_loadAtWork : gcal yX1_loadAtWork cX1_loadAtWork 2 (some .int) 0 := ⟨q218, q3, q216, q217, by decide +kernel⟩
theorem ca_X3_sleepers : gcal yX3_sleepers cX3_sleepers 3 (some .int) 0 := ⟨q222, q2, q220, q221, by decide +kernel⟩
theorem ca_X3_sumOverLoads : gcal yX3_sumOverLoads cX3_sumOverLoads 4 (some .int) 1 := ⟨q226, q2, q224, q225, by decide +kernel⟩
theorem ca_X2_tell : gcal yX2_tell cX2_tell 2 (some .int) 1 := ⟨q230, q5, q228, q229, by decide +kernel⟩
theorem ca_X4_digest : gcal yX4_digest cX4_digest 5 (some .long) 0 := ⟨q234, q1, q232, q233, by decide +kernel⟩
theorem ca_X4_mixed : gcaS yX4_mixed cX4_mixed 3 (some .long) 2 := ⟨q238, q1, q237, by decide +kernel⟩
theorem ca_X4_mixedWithLad : gcal yX4_mixedWithLad cX4_mixedWithLad 7 (some .long) 2 := ⟨q243, q1, q242, qs0, by decide +kernel⟩
theorem ca_X0_heapAt : gcal yX0_heapAt cX0_heapAt 2 (some .int) 1 := ⟨q248, q4, q246, q247, by decide +kernel⟩
theorem ca_X3_balesOf : gcal yX3_balesOf cX3_balesOf 2 (some .int) 1 := ⟨q252, q2, q250, q251, by decide +kernel⟩
theorem ca_X4_come : gcal yX4_come cX4_come 2 (some .int) 1 := ⟨q262, q1, q260, q261, by decide +kernel⟩
theorem ca_X3_addLad : gcal yX3_addLad cX3_addLad 2 (some .int) 1 := ⟨q350, q2, q348, q349, by decide +kernel⟩
theorem ca_X4_setWay : gcal yX4_setWay cX4_setWay 4 (some .int) 2 := ⟨q358, q1, q356, q357, by decide +kernel⟩
theorem ca_X4_needLad : gcal yX4_needLad cX4_needLad 2 none 1 := ⟨q362, q1, q361, qs2, by decide +kernel⟩
theorem ca_X4_setFork : gcal yX4_setFork cX4_setFork 3 (some .int) 1 := ⟨q386, q1, q384, q385, by decide +kernel⟩
theorem ca_X4_bring : gcal yX4_bring cX4_bring 2 (some .int) 1 := ⟨q394, q1, q392, q393, by decide +kernel⟩
theorem ca_X3_addLoad : gcal yX3_addLoad cX3_addLoad 2 (some .int) 1 := ⟨q400, q2, q398, q399, by decide +kernel⟩
theorem ca_X3_setBales : gcal yX3_setBales cX3_setBales 3 none 2 := ⟨q404, q2, q402, q403, by decide +kernel⟩
theorem ca_X3_wakeAll : gcal yX3_wakeAll cX3_wakeAll 2 none 0 := ⟨q408, q2, q406, q407, by decide +kernel⟩
theorem ca_X4_swap : gcal yX4_swap cX4_swap 4 (some .int) 2 := ⟨q415, q1, q413, q414, by decide +kernel⟩
theorem ca_X4_wake : gcal yX4_wake cX4_wake 2 (some .int) 1 := ⟨q423, q1, q421, q422, by decide +kernel⟩
theorem ca_X4_lad : gcal yX4_lad cX4_lad 3 (some .int) 2 := ⟨q432, q1, q430, q431, by decide +kernel⟩
theorem ca_X4_cart : gcal yX4_cart cX4_cart 3 (some .int) 2 := ⟨q440, q1, q438, q439, by decide +kernel⟩
theorem ca_X4_load : gcal yX4_load cX4_load 3 (some .int) 2 := ⟨q448, q1, q446, q447, by decide +kernel⟩
theorem ca_X4_needLoad : gcal yX4_needLoad cX4_needLoad 2 none 1 := ⟨q452, q1, q451, qs3, by decide +kernel⟩
theorem ca_X4_count : gcal yX4_count cX4_count 2 (some .int) 1 := ⟨q461, q1, q459, q460, by decide +kernel⟩
theorem ca_X4_victim : gcal yX4_victim cX4_victim 2 (some .int) 1 := ⟨q469, q1, q467, q468, by decide +kernel⟩
theorem ca_X3_victimOf : gcal yX3_victimOf cX3_victimOf 2 (some .int) 1 := ⟨q473, q2, q471, q472, by decide +kernel⟩
theorem ca_X3_fullestCart : gcal yX3_fullestCart cX3_fullestCart 5 (some .int) 1 := ⟨q477, q2, q475, q476, by decide +kernel⟩
theorem ca_X3_canBeRobbed : gcal yX3_canBeRobbed cX3_canBeRobbed 3 (some .boolean) 2 := ⟨q481, q2, q479, q480, by decide +kernel⟩
theorem ca_X3_greatestFarHeap : gcal yX3_greatestFarHeap cX3_greatestFarHeap 6 (some .int) 1 := ⟨q485, q2, q483, q484, by decide +kernel⟩
theorem ca_X0_farHeap : gcal yX0_farHeap cX0_farHeap 1 (some .int) 0 := ⟨q489, q4, q487, q488, by decide +kernel⟩
theorem ca_X3_nextWithHay : gcal yX3_nextWithHay cX3_nextWithHay 4 (some .int) 1 := ⟨q494, q2, q492, q493, by decide +kernel⟩
theorem ca_X4_pass : gcal yX4_pass cX4_pass 3 (some .int) 1 := ⟨q501, q1, q499, q500, by decide +kernel⟩
theorem ca_X4_needMinutes : gcaS yX4_needMinutes cX4_needMinutes 2 none 2 := ⟨q504, q1, q503, by decide +kernel⟩
theorem ca_X3_runMinutes : gcal yX3_runMinutes cX3_runMinutes 4 none 1 := ⟨q509, q2, q507, q508, by decide +kernel⟩
theorem ca_X3_takeTurn : gcal yX3_takeTurn cX3_takeTurn 3 none 1 := ⟨q513, q2, q511, q512, by decide +kernel⟩
theorem ca_X3_takeFromOwnCart : gcal yX3_takeFromOwnCart cX3_takeFromOwnCart 3 none 1 := ⟨q517, q2, q515, q516, by decide +kernel⟩
theorem ca_X0_takeNear : gcal yX0_takeNear cX0_takeNear 2 (some .int) 0 := ⟨q521, q4, q519, q520, by decide +kernel⟩
theorem ca_X1_take : gcal yX1_take cX1_take 3 none 2 := ⟨q526, q3, q524, q525, by decide +kernel⟩
theorem ca_X3_joinHalves : gcal yX3_joinHalves cX3_joinHalves 3 none 1 := ⟨q530, q2, q528, q529, by decide +kernel⟩
theorem ca_X3_finishHeap : gcal yX3_finishHeap cX3_finishHeap 4 none 2 := ⟨q534, q2, q532, q533, by decide +kernel⟩
theorem ca_X3_loadOf : gcal yX3_loadOf cX3_loadOf 2 (some (.object "HayThieves$Load")) 1 := ⟨q538, q2, q536, q537, by decide +kernel⟩
theorem ca_X3_otherHalf : gcal yX3_otherHalf cX3_otherHalf 2 (some .int) 1 := ⟨q542, q2, q540, q541, by decide +kernel⟩
theorem ca_X3_workOnHeap : gcal yX3_workOnHeap cX3_workOnHeap 3 none 1 := ⟨q546, q2, q544, q545, by decide +kernel⟩
theorem ca_X0_hasRoom : gcal yX0_hasRoom cX0_hasRoom 1 (some .boolean) 0 := ⟨q550, q4, q548, q549, by decide +kernel⟩
theorem ca_X3_forkHeap : gcal yX3_forkHeap cX3_forkHeap 5 none 1 := ⟨q554, q2, q552, q553, by decide +kernel⟩
theorem ca_X0_putNear : gcal yX0_putNear cX0_putNear 2 none 1 := ⟨q558, q4, q556, q557, by decide +kernel⟩
theorem ca_X3_wakeFirstSleeper : gcal yX3_wakeFirstSleeper cX3_wakeFirstSleeper 2 none 0 := ⟨q563, q2, q561, q562, by decide +kernel⟩
theorem ca_X3_pitch : gcal yX3_pitch cX3_pitch 3 none 1 := ⟨q567, q2, q565, q566, by decide +kernel⟩
theorem ca_X3_takeFromYard : gcal yX3_takeFromYard cX3_takeFromYard 3 (some .boolean) 1 := ⟨q571, q2, q569, q570, by decide +kernel⟩
theorem ca_X3_steal : gcal yX3_steal cX3_steal 4 (some .boolean) 1 := ⟨q575, q2, q573, q574, by decide +kernel⟩
theorem ca_X0_takeFar : gcal yX0_takeFar cX0_takeFar 2 (some .int) 0 := ⟨q580, q4, q578, q579, by decide +kernel⟩
theorem ca_X1_beIdle : gcal yX1_beIdle cX1_beIdle 1 none 0 := ⟨q588, q3, q586, q587, by decide +kernel⟩
theorem ca_X4_until : gcal yX4_until cX4_until 4 (some .int) 1 := ⟨q595, q1, q593, q594, by decide +kernel⟩
theorem ca_X3_copyFrom : gcal yX3_copyFrom cX3_copyFrom 3 none 1 := ⟨q599, q2, q597, q598, by decide +kernel⟩
theorem ca_X1_copyFrom : gcal yX1_copyFrom cX1_copyFrom 2 none 1 := ⟨q603, q3, q601, q602, by decide +kernel⟩
theorem ca_X0_copyFrom : gcal yX0_copyFrom cX0_copyFrom 2 none 1 := ⟨q607, q4, q605, q606, by decide +kernel⟩
theorem ca_X2_copyFrom : gcal yX2_copyFrom cX2_copyFrom 2 none 1 := ⟨q611, q5, q609, q610, by decide +kernel⟩
theorem ca_X4_foresee : gcal yX4_foresee cX4_foresee 3 (some .int) 2 := ⟨q619, q1, q617, q618, by decide +kernel⟩
theorem ca_X4_advise : gcal yX4_advise cX4_advise 9 (some .int) 1 := ⟨q627, q1, q625, q626, by decide +kernel⟩
theorem ca_X6_thrown : gcal yX6_thrown cX6_thrown 1 (some .int) 0 := ⟨q777, q6, q775, q776, by decide +kernel⟩
theorem ca_X6_come : gcal yX6_come cX6_come 2 (some .int) 1 := ⟨q781, q6, q779, q780, by decide +kernel⟩
theorem ca_X6_isIn : gcaS yX6_isIn cX6_isIn 3 (some .boolean) 3 := ⟨q784, q6, q783, by decide +kernel⟩
theorem ca_X6_no : gcal yX6_no cX6_no 2 (some .int) 1 := ⟨q788, q6, q787, qs4, by decide +kernel⟩
theorem ca_X6_setWay : gcal yX6_setWay cX6_setWay 4 (some .int) 2 := ⟨q792, q6, q790, q791, by decide +kernel⟩
theorem ca_X6_isLad : gcal yX6_isLad cX6_isLad 2 (some .boolean) 1 := ⟨q796, q6, q795, qs5, by decide +kernel⟩
theorem ca_X6_setFork : gcal yX6_setFork cX6_setFork 3 (some .int) 1 := ⟨q800, q6, q798, q799, by decide +kernel⟩
theorem ca_X6_bring : gcal yX6_bring cX6_bring 3 (some .int) 1 := ⟨q804, q6, q802, q803, by decide +kernel⟩
theorem ca_X5_add : gcal yX5_add cX5_add 4 (some .int) 3 := ⟨q808, q7, q806, q807, by decide +kernel⟩
theorem ca_X6_swap : gcal yX6_swap cX6_swap 5 (some .int) 2 := ⟨q812, q6, q810, q811, by decide +kernel⟩
theorem ca_X6_wake : gcal yX6_wake cX6_wake 2 (some .int) 1 := ⟨q816, q6, q814, q815, by decide +kernel⟩
theorem ca_X6_sleepers : gcal yX6_sleepers cX6_sleepers 4 (some .int) 1 := ⟨q820, q6, q819, qs6, by decide +kernel⟩
theorem ca_X6_lad : gcal yX6_lad cX6_lad 3 (some .int) 2 := ⟨q824, q6, q822, q823, by decide +kernel⟩
theorem ca_X6_ladTold : gcal yX6_ladTold cX6_ladTold 3 (some .int) 2 := ⟨q828, q6, q827, qs7, by decide +kernel⟩
theorem ca_X6_loadOf : gcal yX6_loadOf cX6_loadOf 2 (some .int) 1 := ⟨q832, q6, q831, qs8, by decide +kernel⟩
theorem ca_X6_cart : gcal yX6_cart cX6_cart 3 (some .int) 2 := ⟨q836, q6, q834, q835, by decide +kernel⟩
theorem ca_X6_load : gcal yX6_load cX6_load 3 (some .int) 2 := ⟨q840, q6, q838, q839, by decide +kernel⟩
theorem ca_X6_isLoad : gcal yX6_isLoad cX6_isLoad 2 (some .boolean) 1 := ⟨q844, q6, q843, qs9, by decide +kernel⟩
theorem ca_X6_loadTold : gcal yX6_loadTold cX6_loadTold 3 (some .int) 2 := ⟨q848, q6, q847, qs10, by decide +kernel⟩
theorem ca_X6_count : gcal yX6_count cX6_count 2 (some .int) 1 := ⟨q852, q6, q850, q851, by decide +kernel⟩
theorem ca_X6_counted : gcal yX6_counted cX6_counted 3 (some .int) 2 := ⟨q856, q6, q855, qs11, by decide +kernel⟩
theorem ca_X6_loadsThat : gcal yX6_loadsThat cX6_loadsThat 5 (some .int) 2 := ⟨q860, q6, q859, qs12, by decide +kernel⟩
theorem ca_X6_sumOf : gcal yX6_sumOf cX6_sumOf 4 (some .int) 1 := ⟨q864, q6, q863, qs13, by decide +kernel⟩
theorem ca_X6_victim : gcal yX6_victim cX6_victim 2 (some .int) 1 := ⟨q868, q6, q866, q867, by decide +kernel⟩
theorem ca_X6_victimOf : gcal yX6_victimOf cX6_victimOf 6 (some .int) 2 := ⟨q872, q6, q871, qs14, by decide +kernel⟩
theorem ca_X6_rank : gcal yX6_rank cX6_rank 4 (some .int) 3 := ⟨q876, q6, q875, qs15, by decide +kernel⟩
theorem ca_X5_far : gcal yX5_far cX5_far 2 (some .int) 1 := ⟨q880, q7, q878, q879, by decide +kernel⟩
theorem ca_X6_thief : gcal yX6_thief cX6_thief 3 (some .int) 0 := ⟨q884, q6, q882, q883, by decide +kernel⟩
theorem ca_X6_pass_ : gcal yX6_pass_ cX6_pass_ 3 (some .int) 1 := ⟨q888, q6, q886, q887, by decide +kernel⟩
theorem ca_X6_passAll : gcal yX6_passAll cX6_passAll 5 (some (.object "HayThievesModel$State")) 3 := ⟨q892, q6, q891, qs16, by decide +kernel⟩
theorem ca_X6_pass : gcal yX6_pass cX6_pass 4 none 2 := ⟨q896, q6, q895, qs17, by decide +kernel⟩
theorem ca_X6_turn : gcal yX6_turn cX6_turn 6 none 3 := ⟨q900, q6, q899, qs18, by decide +kernel⟩
theorem ca_X5_finish : gcal yX5_finish cX5_finish 3 none 2 := ⟨q904, q7, q902, q903, by decide +kernel⟩
theorem ca_X5_takeNear : gcal yX5_takeNear cX5_takeNear 3 (some .int) 1 := ⟨q908, q7, q906, q907, by decide +kernel⟩
theorem ca_X5_hold : gcal yX5_hold cX5_hold 3 none 2 := ⟨q913, q7, q911, q912, by decide +kernel⟩
theorem ca_X5_forkIt : gcal yX5_forkIt cX5_forkIt 6 none 2 := ⟨q917, q7, q915, q916, by decide +kernel⟩
theorem ca_X5_putNear : gcal yX5_putNear cX5_putNear 3 none 2 := ⟨q922, q7, q920, q921, by decide +kernel⟩
theorem ca_X5_pitch : gcal yX5_pitch cX5_pitch 5 none 3 := ⟨q926, q7, q924, q925, by decide +kernel⟩
theorem ca_J9_min_7cf53 : gcaS yJ9_min_7cf53 cJ9_min_7cf53 2 (some .int) 2 := ⟨q929, q15, q928, by decide +kernel⟩
theorem ca_X6_inYard : gcal yX6_inYard cX6_inYard 3 (some .int) 1 := ⟨q934, q6, q933, qs19, by decide +kernel⟩
theorem ca_X5_rest : gcal yX5_rest cX5_rest 2 none 1 := ⟨q938, q7, q936, q937, by decide +kernel⟩
theorem ca_X5_steal : gcal yX5_steal cX5_steal 4 none 2 := ⟨q942, q7, q940, q941, by decide +kernel⟩
theorem ca_X6_until : gcal yX6_until cX6_until 3 (some .int) 1 := ⟨q948, q6, q946, q947, by decide +kernel⟩
theorem ca_X5_become : gcal yX5_become cX5_become 2 (some (.object "HayThievesModel$State")) 1 := ⟨q952, q7, q950, q951, by decide +kernel⟩
theorem ca_X5_copy : gcaS yX5_copy cX5_copy 3 none 3 := ⟨q955, q7, q954, by decide +kernel⟩
theorem ca_X6_foresee : gcal yX6_foresee cX6_foresee 3 (some .int) 2 := ⟨q959, q6, q957, q958, by decide +kernel⟩
theorem ca_X6_advise : gcal yX6_advise cX6_advise 9 (some .int) 1 := ⟨q963, q6, q961, q962, by decide +kernel⟩
theorem ca_X6_mean : gcal yX6_mean cX6_mean 1 (some .double) 0 := ⟨q969, q6, q967, q968, by decide +kernel⟩
theorem ca_X6_digest : gcal yX6_digest cX6_digest 5 (some .long) 0 := ⟨q973, q6, q971, q972, by decide +kernel⟩
end
section
/-! PRINTED by wip/gen (cls.py): X0 -/

theorem u3_at (Z : gY) (t i j : Nat) (x : Int32) : u3 Z t i j x t i j = x := by simp [u3]
theorem wf_ne {I I' : gI} {y : Nat} (e : I' y = I y) (h : wf (I y)) : wf (I' y) := by rw [e]; exact h
theorem rg_heapAt {z x : Int32} (h : isN z 8) (h1 : ¬ x < 0) (h2 : x < z) : vp_in (z - 1 - x) 8 := by
  obtain ⟨j, hj, rfl⟩ := nI_of h1
  obtain ⟨hk, hz⟩ := h
  generalize z.toNatClampNeg = k at hk hz
  subst hz
  have hlt : j < k := by
    rcases Nat.lt_or_ge j k with q | q
    · exact q
    · exact absurd h2 (nI_nlt q hj)
  have e1 : nI k - 1 = nI (k - 1) := by
    have := nI_pred (k - 1)
    rwa [show k - 1 + 1 = k by omega] at this
  rw [e1, pk_sub (by omega)]
  exact vp_in_nI (by omega) (by decide)
theorem rg_grow {z : Int32} (h : vp_in z 8) : isN (z + 1) 8 := by
  obtain ⟨j, hj, rfl⟩ := vp_in_of h (by decide)
  rw [nI_1]
  exact isN_nI (by omega) (by decide)
theorem rg_shrink {z : Int32} (h : isN z 8) (h0 : ¬ z ≤ 0) : isN (z - 1) 8 ∧ ¬ z - 1 < 0 ∧ 1 + (z - 1).toNatClampNeg ≤ 8 := by
  obtain ⟨hk, hz⟩ := h
  generalize z.toNatClampNeg = k at hk hz
  subst hz
  have hp : 0 < k := by
    rcases Nat.eq_zero_or_pos k with q | q
    · subst q; exact absurd (by decide) h0
    · exact q
  have e1 : nI k - 1 = nI (k - 1) := by
    have := nI_pred (k - 1)
    rwa [show k - 1 + 1 = k by omega] at this
  rw [e1, nI_clamp (by omega)]
  exact ⟨isN_nI (by omega) (by decide), nI_pos (by omega), by omega⟩

def f_X0_heapAt (I : gI) (y i : Nat) (x : Int32) : Int32 :=
  if x < 0 then
    (-1)
  else
    if x < (I y 2 i 1) then
      (I y 3 i ((((I y 2 i 1) - 1) - x).toNatClampNeg))
    else
      (-1)
set_option maxHeartbeats 4000000 in
set_option maxRecDepth 100000 in
theorem m_X0_heapAt (l : Launch) (E : gE) (J : Int64) (I : gI) (y i : Nat) (x : Int32) (hy : y < 2) (hi : i < 6) (hw : wf (I y)) : gMi l E J yX0_heapAt cX0_heapAt 2 (some .int) 0 0 [.ref (gA E y 2 i), .int x] I (f_X0_heapAt I y i x) I := by
  refine g_entry (lv := [(0, .ref (gA E y 2 i)), (1, .int x)]) (by decide) (Nat.le_of_ble_eq_true rfl) rfl ?_
  intro p e s m below meth c0 ls K hG hS hml hr hlocks hl
  have K : kx E p m c0 cX0_heapAt "HayThieves$Cart" _ s := K
  have hx := K.1
  have hb := K.2.1
  have hts := K.2.2.1
  have hown := K.2.2.2.1
  have hSt := K.2.2.2.2
  refine lv_iload_n hx hb dX0_heapAt_0 rfl (lv_at hl 1 rfl) ?_
  refine lv_if_lt (tgt := 12) hx hb dX0_heapAt_1 (by decide) (fun c1 => ?_) (fun c1 => ?_)
  · refine lv_iconst (v := (-1)) hx hb dX0_heapAt_12 (by decide) ?_
    refine lv_goto (tgt := 29) hx hb dX0_heapAt_13 (by decide) ?_
    exact g_iret K hG hS hr hlocks (by simp only [f_X0_heapAt, if_pos c1]) dX0_heapAt_29
  · refine lv_iload_n hx hb dX0_heapAt_4 rfl (lv_at hl 1 rfl) ?_
    refine lv_aload_n hx hb dX0_heapAt_5 rfl (lv_at hl 0 rfl) ?_
    refine gf_X0_15 K hG (gv2 hy hi) dX0_heapAt_6 ?_
    refine lv_icmp_lt (tgt := 16) hx hb dX0_heapAt_9 (by decide) (fun c2 => ?_) (fun c2 => ?_)
    · refine lv_aload_n hx hb dX0_heapAt_16 rfl (lv_at hl 0 rfl) ?_
      refine gf_X0_9 K hG (gv2 hy hi) dX0_heapAt_17 ?_
      refine lv_aload_n hx hb dX0_heapAt_20 rfl (lv_at hl 0 rfl) ?_
      refine gf_X0_15 K hG (gv2 hy hi) dX0_heapAt_21 ?_
      refine lv_iconst (v := 1) hx hb dX0_heapAt_24 (by decide) ?_
      refine lv_isub hx hb dX0_heapAt_25 ?_
      refine lv_iload_n hx hb dX0_heapAt_26 rfl (lv_at hl 1 rfl) ?_
      refine lv_isub hx hb dX0_heapAt_27 ?_
      refine g_iald K hG (gv3 hy hi) rfl (fun _ => rfl) (rg_heapAt ⟨hw.size hi, hw.sizeE hi⟩ c1 c2) dX0_heapAt_28 ?_
      exact g_iret K hG hS hr hlocks (by simp only [f_X0_heapAt, if_neg c1, if_pos c2]) dX0_heapAt_29
    · refine lv_iconst (v := (-1)) hx hb dX0_heapAt_12 (by decide) ?_
      refine lv_goto (tgt := 29) hx hb dX0_heapAt_13 (by decide) ?_
      exact g_iret K hG hS hr hlocks (by simp only [f_X0_heapAt, if_neg c1, if_neg c2]) dX0_heapAt_29
def f_X0_farHeap (I : gI) (y i : Nat) : Int32 :=
  if (I y 2 i 1) ≤ 0 then
    (-1)
  else
    (I y 3 i 0)
set_option maxHeartbeats 4000000 in
set_option maxRecDepth 100000 in
theorem m_X0_farHeap (l : Launch) (E : gE) (J : Int64) (I : gI) (y i : Nat) (hy : y < 2) (hi : i < 6) (hw : wf (I y)) : gMi l E J yX0_farHeap cX0_farHeap 1 (some .int) 0 0 [.ref (gA E y 2 i)] I (f_X0_farHeap I y i) I := by
  refine g_entry (lv := [(0, .ref (gA E y 2 i))]) (by decide) (Nat.le_of_ble_eq_true rfl) rfl ?_
  intro p e s m below meth c0 ls K hG hS hml hr hlocks hl
  have K : kx E p m c0 cX0_farHeap "HayThieves$Cart" _ s := K
  have hx := K.1
  have hb := K.2.1
  have hts := K.2.2.1
  have hown := K.2.2.2.1
  have hSt := K.2.2.2.2
  refine lv_aload_n hx hb dX0_farHeap_0 rfl (lv_at hl 0 rfl) ?_
  refine gf_X0_15 K hG (gv2 hy hi) dX0_farHeap_1 ?_
  refine lv_if_le (tgt := 16) hx hb dX0_farHeap_4 (by decide) (fun c1 => ?_) (fun c1 => ?_)
  · refine lv_iconst (v := (-1)) hx hb dX0_farHeap_16 (by decide) ?_
    exact g_iret K hG hS hr hlocks (by simp only [f_X0_farHeap, if_pos c1]) dX0_farHeap_17
  · refine lv_aload_n hx hb dX0_farHeap_7 rfl (lv_at hl 0 rfl) ?_
    refine gf_X0_9 K hG (gv2 hy hi) dX0_farHeap_8 ?_
    refine lv_iconst (v := 0) hx hb dX0_farHeap_11 (by decide) ?_
    refine g_iald K hG (gv3 hy hi) rfl (fun _ => rfl) (gin0 (by decide) (by decide)) dX0_farHeap_12 ?_
    rw [show ((0 : Int32)).toNatClampNeg = 0 from rfl]
    refine lv_goto (tgt := 17) hx hb dX0_farHeap_13 (by decide) ?_
    exact g_iret K hG hS hr hlocks (by simp only [f_X0_farHeap, if_neg c1]) dX0_farHeap_17
def f_X0_hasRoom (I : gI) (y i : Nat) : Int32 :=
  if 8 ≤ (I y 2 i 1) then
    0
  else
    1
set_option maxHeartbeats 4000000 in
set_option maxRecDepth 100000 in
theorem m_X0_hasRoom (l : Launch) (E : gE) (J : Int64) (I : gI) (y i : Nat) (hy : y < 2) (hi : i < 6) (hw : wf (I y)) : gMi l E J yX0_hasRoom cX0_hasRoom 1 (some .boolean) 0 0 [.ref (gA E y 2 i)] I (f_X0_hasRoom I y i) I := by
  refine g_entry (lv := [(0, .ref (gA E y 2 i))]) (by decide) (Nat.le_of_ble_eq_true rfl) rfl ?_
  intro p e s m below meth c0 ls K hG hS hml hr hlocks hl
  have K : kx E p m c0 cX0_hasRoom "HayThieves$Cart" _ s := K
  have hx := K.1
  have hb := K.2.1
  have hts := K.2.2.1
  have hown := K.2.2.2.1
  have hSt := K.2.2.2.2
  refine lv_aload_n hx hb dX0_hasRoom_0 rfl (lv_at hl 0 rfl) ?_
  refine gf_X0_15 K hG (gv2 hy hi) dX0_hasRoom_1 ?_
  refine lv_aload_n hx hb dX0_hasRoom_4 rfl (lv_at hl 0 rfl) ?_
  refine gf_X0_9 K hG (gv2 hy hi) dX0_hasRoom_5 ?_
  refine g_alen (a := 0) (n := 8) K hG (gv3 hy hi) rfl rfl (v := 8) rfl dX0_hasRoom_8 ?_
  refine lv_icmp_ge (tgt := 16) hx hb dX0_hasRoom_9 (by decide) (fun c1 => ?_) (fun c1 => ?_)
  · refine lv_iconst (v := 0) hx hb dX0_hasRoom_16 (by decide) ?_
    exact g_zret K hG hS hr hlocks (gvpZ gz0) (by simp only [f_X0_hasRoom, if_pos c1]) dX0_hasRoom_17
  · refine lv_iconst (v := 1) hx hb dX0_hasRoom_12 (by decide) ?_
    refine lv_goto (tgt := 17) hx hb dX0_hasRoom_13 (by decide) ?_
    exact g_zret K hG hS hr hlocks (gvpZ gz1) (by simp only [f_X0_hasRoom, if_neg c1]) dX0_hasRoom_17

theorem rg_room {I : gI} {y c : Nat} (h : isN (I y 2 c 1) 8) (hr : ¬ f_X0_hasRoom I y c = 0) : vp_in (I y 2 c 1) 8 := by
  obtain ⟨hk, hz⟩ := h
  have h8 : ¬ (8 : Int32) ≤ I y 2 c 1 := by
    intro q
    apply hr
    unfold f_X0_hasRoom
    rw [if_pos q]
  rw [hz] at h8 ⊢
  refine vp_in_nI ?_ (by decide)
  rcases Nat.lt_or_ge (I y 2 c 1).toNatClampNeg 8 with q | q
  · exact q
  · exact absurd (show nI 8 ≤ nI (I y 2 c 1).toNatClampNeg from nI_le q (by omega)) h8

def f_X0_putNear (I : gI) (y i : Nat) (x : Int32) : gI :=
  if (f_X0_hasRoom I y i) = 0 then
    I
  else
    let I1 := gU I y 3 i ((I y 2 i 1).toNatClampNeg) x
    let I2 := gU I1 y 2 i 1 ((I1 y 2 i 1) + 1)
    I2
set_option maxHeartbeats 4000000 in
set_option maxRecDepth 100000 in
theorem m_X0_putNear (l : Launch) (E : gE) (J : Int64) (I : gI) (y i : Nat) (x : Int32) (hy : y < 2) (hi : i < 6) (hw : wf (I y)) : gMv l E J yX0_putNear cX0_putNear 2 none 1 20 [.ref (gA E y 2 i), .int x] I (f_X0_putNear I y i x) := by
  refine g_entry (lv := [(0, .ref (gA E y 2 i)), (1, .int x)]) (by decide) (Nat.le_of_ble_eq_true rfl) rfl ?_
  intro p e s m below meth c0 ls K hG hS hml hr hlocks hl
  have K : kx E p m c0 cX0_putNear "HayThieves$Cart" _ s := K
  have hx := K.1
  have hb := K.2.1
  have hts := K.2.2.1
  have hown := K.2.2.2.1
  have hSt := K.2.2.2.2
  refine lv_aload_n hx hb dX0_putNear_0 rfl (lv_at hl 0 rfl) ?_
  refine g_ki (g_runV (As := []) (rest := []) K hml ca_X0_hasRoom q559 (m_X0_hasRoom l E J I y i hy hi hw) hG hS (gv2 hy hi) rfl rfl rfl rfl hl.1 (by decide) ⟨by decide, by decide⟩ dX0_putNear_1 ⟨Nat.zero_le _, Nat.zero_le _⟩) hS (fun H locs hG hS => ?_)
  refine lv_if_eq (tgt := 27) hx hb dX0_putNear_4 (by decide) (fun c1 => ?_) (fun c1 => ?_)
  · have eS : I = (f_X0_putNear I y i x) := (by simp only [f_X0_putNear, if_pos c1])
    rw [eS] at hG
    exact g_vret K hG hS hr hlocks dX0_putNear_27
  · refine lv_aload_n hx hb dX0_putNear_7 rfl (lv_at hl 0 rfl) ?_
    refine gf_X0_9 K hG (gv2 hy hi) dX0_putNear_8 ?_
    refine lv_aload_n hx hb dX0_putNear_11 rfl (lv_at hl 0 rfl) ?_
    refine gf_X0_15 K hG (gv2 hy hi) dX0_putNear_12 ?_
    refine lv_iload_n hx hb dX0_putNear_15 rfl (lv_at hl 1 rfl) ?_
    refine g_iast K hG hS (gv3 hy hi) rfl (fun _ => rfl) (fun _ q => absurd q.1 (by decide)) (rg_room ⟨hw.size hi, hw.sizeE hi⟩ c1) dX0_putNear_16 (fun I1 hI1 H locs hG hS => ?_)
    have hw1_y : wf (I1 y) := by rw [hI1]; exact wf_gU rfl hw
    refine lv_aload_n hx hb dX0_putNear_17 rfl (lv_at hl 0 rfl) ?_
    refine lv_dup hx hb dX0_putNear_18 rfl ?_
    refine gf_X0_15 K hG (gv2 hy hi) dX0_putNear_19 ?_
    refine lv_iconst (v := 1) hx hb dX0_putNear_22 (by decide) ?_
    refine lv_iadd hx hb dX0_putNear_23 ?_
    refine pf_X0_15 K hG hS (gv2 hy hi) dX0_putNear_24 (fun I2 hI2 H locs hG hS => ?_)
    have hw2_y : wf (I2 y) := by rw [hI2]; exact wf_size (rg_grow (show vp_in (I1 y 2 i 1) 8 from by rw [hI1, gU_at]; exact rg_room ⟨hw.size hi, hw.sizeE hi⟩ c1)) hw1_y
    have eS : I2 = (f_X0_putNear I y i x) := (by subst hI1 hI2; simp only [f_X0_putNear, if_neg c1])
    rw [eS] at hG
    exact g_vret K hG hS hr hlocks dX0_putNear_27
set_option maxRecDepth 100000 in
theorem wf_X0_putNear (I : gI) (y i : Nat) (x : Int32) (hy : y < 2) (hi : i < 6) (hw : wf (I y)) : wf (f_X0_putNear I y i x y) := by
  by_cases c1 : (f_X0_hasRoom I y i) = 0
  · have eS : f_X0_putNear I y i x = I := by simp only [f_X0_putNear, if_pos c1]
    rw [eS]
    exact hw
  · obtain ⟨I1, hI1⟩ : ∃ z, z = gU I y 3 i ((I y 2 i 1).toNatClampNeg) x := ⟨_, rfl⟩
    have hw1_y : wf (I1 y) := by rw [hI1]; exact wf_gU rfl hw
    obtain ⟨I2, hI2⟩ : ∃ z, z = gU I1 y 2 i 1 ((I1 y 2 i 1) + 1) := ⟨_, rfl⟩
    have hw2_y : wf (I2 y) := by rw [hI2]; exact wf_size (rg_grow (show vp_in (I1 y 2 i 1) 8 from by rw [hI1, gU_at]; exact rg_room ⟨hw.size hi, hw.sizeE hi⟩ c1)) hw1_y
    have eS : f_X0_putNear I y i x = I2 := by subst hI1 hI2; simp only [f_X0_putNear, if_neg c1]
    rw [eS]
    exact hw2_y
set_option maxRecDepth 100000 in
theorem ne_X0_putNear (I : gI) (y i : Nat) (x : Int32) (hy : y < 2) (hi : i < 6) (hw : wf (I y)) {y' : Nat} (hne : y' ≠ y) : f_X0_putNear I y i x y' = I y' := by
  have hn : I y' = I y' := rfl
  by_cases c1 : (f_X0_hasRoom I y i) = 0
  · have eS : f_X0_putNear I y i x = I := by simp only [f_X0_putNear, if_pos c1]
    rw [eS]
  · obtain ⟨I1, hI1⟩ : ∃ z, z = gU I y 3 i ((I y 2 i 1).toNatClampNeg) x := ⟨_, rfl⟩
    have hw1_y : wf (I1 y) := by rw [hI1]; exact wf_gU rfl hw
    have hn1 : I1 y' = I y' := by rw [hI1]; exact (gU_ne _ _ _ _ _ hne).trans hn
    obtain ⟨I2, hI2⟩ : ∃ z, z = gU I1 y 2 i 1 ((I1 y 2 i 1) + 1) := ⟨_, rfl⟩
    have hw2_y : wf (I2 y) := by rw [hI2]; exact wf_size (rg_grow (show vp_in (I1 y 2 i 1) 8 from by rw [hI1, gU_at]; exact rg_room ⟨hw.size hi, hw.sizeE hi⟩ c1)) hw1_y
    have hn2 : I2 y' = I y' := by rw [hI2]; exact (gU_ne _ _ _ _ _ hne).trans hn1
    have eS : f_X0_putNear I y i x = I2 := by subst hI1 hI2; simp only [f_X0_putNear, if_neg c1]
    rw [eS]
    exact hn2
def f_X0_takeNear_v (I : gI) (y i : Nat) : Int32 :=
  if (I y 2 i 1) ≤ 0 then
    (f_X0_heapAt I y i 0)
  else
    let I1 := gU I y 2 i 1 ((I y 2 i 1) - 1)
    (f_X0_heapAt I y i 0)
def f_X0_takeNear_s (I : gI) (y i : Nat) : gI :=
  if (I y 2 i 1) ≤ 0 then
    I
  else
    let I1 := gU I y 2 i 1 ((I y 2 i 1) - 1)
    I1
set_option maxHeartbeats 4000000 in
set_option maxRecDepth 100000 in
theorem m_X0_takeNear (l : Launch) (E : gE) (J : Int64) (I : gI) (y i : Nat) (hy : y < 2) (hi : i < 6) (hw : wf (I y)) : gMi l E J yX0_takeNear cX0_takeNear 2 (some .int) 1 21 [.ref (gA E y 2 i)] I (f_X0_takeNear_v I y i) (f_X0_takeNear_s I y i) := by
  refine g_entry (lv := [(0, .ref (gA E y 2 i))]) (by decide) (Nat.le_of_ble_eq_true rfl) rfl ?_
  intro p e s m below meth c0 ls K hG hS hml hr hlocks hl
  have K : kx E p m c0 cX0_takeNear "HayThieves$Cart" _ s := K
  have hx := K.1
  have hb := K.2.1
  have hts := K.2.2.1
  have hown := K.2.2.2.1
  have hSt := K.2.2.2.2
  refine lv_aload_n hx hb dX0_takeNear_0 rfl (lv_at hl 0 rfl) ?_
  refine lv_iconst (v := 0) hx hb dX0_takeNear_1 (by decide) ?_
  refine g_ki (g_runV (As := [.int 0]) (rest := []) K hml ca_X0_heapAt q522 (m_X0_heapAt l E J I y i 0 hy hi hw) hG hS (gv2 hy hi) rfl rfl rfl rfl hl.1 (by decide) ⟨by decide, by decide⟩ dX0_takeNear_2 ⟨Nat.zero_le _, Nat.zero_le _⟩) hS (fun H locs hG hS => ?_)
  refine lv_istore_n (lv' := [(1, .int (f_X0_heapAt I y i 0)), (0, .ref (gA E y 2 i))]) hx hb dX0_takeNear_5 rfl hl (by decide) rfl (fun ls hl => ?_)
  refine lv_aload_n hx hb dX0_takeNear_6 rfl (lv_at hl 1 rfl) ?_
  refine gf_X0_15 K hG (gv2 hy hi) dX0_takeNear_7 ?_
  refine lv_if_le (tgt := 23) hx hb dX0_takeNear_10 (by decide) (fun c1 => ?_) (fun c1 => ?_)
  · refine lv_iload_n hx hb dX0_takeNear_23 rfl (lv_at hl 0 rfl) ?_
    have eS : I = (f_X0_takeNear_s I y i) := (by simp only [f_X0_takeNear_s, if_pos c1])
    rw [eS] at hG
    exact g_iret K hG hS hr hlocks (by simp only [f_X0_takeNear_v, if_pos c1]) dX0_takeNear_24
  · refine lv_aload_n hx hb dX0_takeNear_13 rfl (lv_at hl 1 rfl) ?_
    refine lv_dup hx hb dX0_takeNear_14 rfl ?_
    refine gf_X0_15 K hG (gv2 hy hi) dX0_takeNear_15 ?_
    refine lv_iconst (v := 1) hx hb dX0_takeNear_18 (by decide) ?_
    refine lv_isub hx hb dX0_takeNear_19 ?_
    refine pf_X0_15 K hG hS (gv2 hy hi) dX0_takeNear_20 (fun I1 hI1 H locs hG hS => ?_)
    have hw1_y : wf (I1 y) := by rw [hI1]; exact wf_size (rg_shrink ⟨hw.size hi, hw.sizeE hi⟩ c1).1 hw
    refine lv_iload_n hx hb dX0_takeNear_23 rfl (lv_at hl 0 rfl) ?_
    have eS : I1 = (f_X0_takeNear_s I y i) := (by subst hI1; simp only [f_X0_takeNear_s, if_neg c1])
    rw [eS] at hG
    exact g_iret K hG hS hr hlocks (by subst hI1; simp only [f_X0_takeNear_v, if_neg c1]) dX0_takeNear_24
set_option maxRecDepth 100000 in
theorem wf_X0_takeNear (I : gI) (y i : Nat) (hy : y < 2) (hi : i < 6) (hw : wf (I y)) : wf (f_X0_takeNear_s I y i y) := by
  by_cases c1 : (I y 2 i 1) ≤ 0
  · have eS : f_X0_takeNear_s I y i = I := by simp only [f_X0_takeNear_s, if_pos c1]
    rw [eS]
    exact hw
  · obtain ⟨I1, hI1⟩ : ∃ z, z = gU I y 2 i 1 ((I y 2 i 1) - 1) := ⟨_, rfl⟩
    have hw1_y : wf (I1 y) := by rw [hI1]; exact wf_size (rg_shrink ⟨hw.size hi, hw.sizeE hi⟩ c1).1 hw
    have eS : f_X0_takeNear_s I y i = I1 := by subst hI1; simp only [f_X0_takeNear_s, if_neg c1]
    rw [eS]
    exact hw1_y
set_option maxRecDepth 100000 in
theorem ne_X0_takeNear (I : gI) (y i : Nat) (hy : y < 2) (hi : i < 6) (hw : wf (I y)) {y' : Nat} (hne : y' ≠ y) : f_X0_takeNear_s I y i y' = I y' := by
  have hn : I y' = I y' := rfl
  by_cases c1 : (I y 2 i 1) ≤ 0
  · have eS : f_X0_takeNear_s I y i = I := by simp only [f_X0_takeNear_s, if_pos c1]
    rw [eS]
  · obtain ⟨I1, hI1⟩ : ∃ z, z = gU I y 2 i 1 ((I y 2 i 1) - 1) := ⟨_, rfl⟩
    have hw1_y : wf (I1 y) := by rw [hI1]; exact wf_size (rg_shrink ⟨hw.size hi, hw.sizeE hi⟩ c1).1 hw
    have hn1 : I1 y' = I y' := by rw [hI1]; exact (gU_ne _ _ _ _ _ hne).trans hn
    have eS : f_X0_takeNear_s I y i = I1 := by subst hI1; simp only [f_X0_takeNear_s, if_neg c1]
    rw [eS]
    exact hn1
def f_X0_takeFar_v (I : gI) (y i : Nat) : Int32 :=
  if (I y 2 i 1) ≤ 0 then
    (f_X0_farHeap I y i)
  else
    let I1 := gU I y 2 i 1 ((I y 2 i 1) - 1)
    let I2 := gR I1 y 3 i (va_cpy (I1 y 3 i) (I1 y 3 i) 1 0 ((I1 y 2 i 1).toNatClampNeg))
    (f_X0_farHeap I y i)
def f_X0_takeFar_s (I : gI) (y i : Nat) : gI :=
  if (I y 2 i 1) ≤ 0 then
    I
  else
    let I1 := gU I y 2 i 1 ((I y 2 i 1) - 1)
    let I2 := gR I1 y 3 i (va_cpy (I1 y 3 i) (I1 y 3 i) 1 0 ((I1 y 2 i 1).toNatClampNeg))
    I2
set_option maxHeartbeats 4000000 in
set_option maxRecDepth 100000 in
theorem m_X0_takeFar (l : Launch) (E : gE) (J : Int64) (I : gI) (y i : Nat) (hy : y < 2) (hi : i < 6) (hw : wf (I y)) : gMi l E J yX0_takeFar cX0_takeFar 2 (some .int) 1 40 [.ref (gA E y 2 i)] I (f_X0_takeFar_v I y i) (f_X0_takeFar_s I y i) := by
  refine g_entry (lv := [(0, .ref (gA E y 2 i))]) (by decide) (Nat.le_of_ble_eq_true rfl) rfl ?_
  intro p e s m below meth c0 ls K hG hS hml hr hlocks hl
  have K : kx E p m c0 cX0_takeFar "HayThieves$Cart" _ s := K
  have hx := K.1
  have hb := K.2.1
  have hts := K.2.2.1
  have hown := K.2.2.2.1
  have hSt := K.2.2.2.2
  refine lv_aload_n hx hb dX0_takeFar_0 rfl (lv_at hl 0 rfl) ?_
  refine g_ki (g_runV (As := []) (rest := []) K hml ca_X0_farHeap q581 (m_X0_farHeap l E J I y i hy hi hw) hG hS (gv2 hy hi) rfl rfl rfl rfl hl.1 (by decide) ⟨by decide, by decide⟩ dX0_takeFar_1 ⟨Nat.zero_le _, Nat.zero_le _⟩) hS (fun H locs hG hS => ?_)
  refine lv_istore_n (lv' := [(1, .int (f_X0_farHeap I y i)), (0, .ref (gA E y 2 i))]) hx hb dX0_takeFar_4 rfl hl (by decide) rfl (fun ls hl => ?_)
  refine lv_aload_n hx hb dX0_takeFar_5 rfl (lv_at hl 1 rfl) ?_
  refine gf_X0_15 K hG (gv2 hy hi) dX0_takeFar_6 ?_
  refine lv_if_le (tgt := 39) hx hb dX0_takeFar_9 (by decide) (fun c1 => ?_) (fun c1 => ?_)
  · refine lv_iload_n hx hb dX0_takeFar_39 rfl (lv_at hl 0 rfl) ?_
    have eS : I = (f_X0_takeFar_s I y i) := (by simp only [f_X0_takeFar_s, if_pos c1])
    rw [eS] at hG
    exact g_iret K hG hS hr hlocks (by simp only [f_X0_takeFar_v, if_pos c1]) dX0_takeFar_40
  · refine lv_aload_n hx hb dX0_takeFar_12 rfl (lv_at hl 1 rfl) ?_
    refine lv_dup hx hb dX0_takeFar_13 rfl ?_
    refine gf_X0_15 K hG (gv2 hy hi) dX0_takeFar_14 ?_
    refine lv_iconst (v := 1) hx hb dX0_takeFar_17 (by decide) ?_
    refine lv_isub hx hb dX0_takeFar_18 ?_
    refine pf_X0_15 K hG hS (gv2 hy hi) dX0_takeFar_19 (fun I1 hI1 H locs hG hS => ?_)
    have hw1_y : wf (I1 y) := by rw [hI1]; exact wf_size (rg_shrink ⟨hw.size hi, hw.sizeE hi⟩ c1).1 hw
    refine lv_aload_n hx hb dX0_takeFar_22 rfl (lv_at hl 1 rfl) ?_
    refine gf_X0_9 K hG (gv2 hy hi) dX0_takeFar_23 ?_
    refine lv_iconst (v := 1) hx hb dX0_takeFar_26 (by decide) ?_
    refine lv_aload_n hx hb dX0_takeFar_27 rfl (lv_at hl 1 rfl) ?_
    refine gf_X0_9 K hG (gv2 hy hi) dX0_takeFar_28 ?_
    refine lv_iconst (v := 0) hx hb dX0_takeFar_31 (by decide) ?_
    refine lv_aload_n hx hb dX0_takeFar_32 rfl (lv_at hl 1 rfl) ?_
    refine gf_X0_15 K hG (gv2 hy hi) dX0_takeFar_33 ?_
    refine g_copy (a := 0) (ty := .int) K (hml.trans hl.1.symm) q582 hG hS (gv3 hy hi) (gv3 hy hi) rfl rfl (fun _ => rfl) (fun _ => rfl) (by decide) rfl rfl (by decide) (by decide) (by rw [hI1, gU_at, u3_at]; exact (rg_shrink ⟨hw.size hi, hw.sizeE hi⟩ c1).2.1) (by rw [hI1, gU_at, u3_at]; exact (rg_shrink ⟨hw.size hi, hw.sizeE hi⟩ c1).2.2) (by rw [hI1, gU_at, u3_at]; have := (rg_shrink ⟨hw.size hi, hw.sizeE hi⟩ c1).2.2; show 0 + _ ≤ 8; omega) (fun _ _ => rfl) (by decide) (by decide) dX0_takeFar_36 (fun I2 hI2 H locs hG hS => ?_)
    replace hI2 : I2 = gR I1 y 3 i (va_cpy (I1 y 3 i) (I1 y 3 i) 1 0 ((I1 y 2 i 1).toNatClampNeg)) := hI2
    have hw2_y : wf (I2 y) := by rw [hI2]; exact wf_gR (by decide) hw1_y
    refine lv_iload_n hx hb dX0_takeFar_39 rfl (lv_at hl 0 rfl) ?_
    have eS : I2 = (f_X0_takeFar_s I y i) := (by subst hI1 hI2; simp only [f_X0_takeFar_s, if_neg c1])
    rw [eS] at hG
    exact g_iret K hG hS hr hlocks (by subst hI1 hI2; simp only [f_X0_takeFar_v, if_neg c1]) dX0_takeFar_40
set_option maxRecDepth 100000 in
theorem wf_X0_takeFar (I : gI) (y i : Nat) (hy : y < 2) (hi : i < 6) (hw : wf (I y)) : wf (f_X0_takeFar_s I y i y) := by
  by_cases c1 : (I y 2 i 1) ≤ 0
  · have eS : f_X0_takeFar_s I y i = I := by simp only [f_X0_takeFar_s, if_pos c1]
    rw [eS]
    exact hw
  · obtain ⟨I1, hI1⟩ : ∃ z, z = gU I y 2 i 1 ((I y 2 i 1) - 1) := ⟨_, rfl⟩
    have hw1_y : wf (I1 y) := by rw [hI1]; exact wf_size (rg_shrink ⟨hw.size hi, hw.sizeE hi⟩ c1).1 hw
    obtain ⟨I2, hI2⟩ : ∃ z, z = gR I1 y 3 i (va_cpy (I1 y 3 i) (I1 y 3 i) 1 0 ((I1 y 2 i 1).toNatClampNeg)) := ⟨_, rfl⟩
    have hw2_y : wf (I2 y) := by rw [hI2]; exact wf_gR (by decide) hw1_y
    have eS : f_X0_takeFar_s I y i = I2 := by subst hI1 hI2; simp only [f_X0_takeFar_s, if_neg c1]
    rw [eS]
    exact hw2_y
set_option maxRecDepth 100000 in
theorem ne_X0_takeFar (I : gI) (y i : Nat) (hy : y < 2) (hi : i < 6) (hw : wf (I y)) {y' : Nat} (hne : y' ≠ y) : f_X0_takeFar_s I y i y' = I y' := by
  have hn : I y' = I y' := rfl
  by_cases c1 : (I y 2 i 1) ≤ 0
  · have eS : f_X0_takeFar_s I y i = I := by simp only [f_X0_takeFar_s, if_pos c1]
    rw [eS]
  · obtain ⟨I1, hI1⟩ : ∃ z, z = gU I y 2 i 1 ((I y 2 i 1) - 1) := ⟨_, rfl⟩
    have hw1_y : wf (I1 y) := by rw [hI1]; exact wf_size (rg_shrink ⟨hw.size hi, hw.sizeE hi⟩ c1).1 hw
    have hn1 : I1 y' = I y' := by rw [hI1]; exact (gU_ne _ _ _ _ _ hne).trans hn
    obtain ⟨I2, hI2⟩ : ∃ z, z = gR I1 y 3 i (va_cpy (I1 y 3 i) (I1 y 3 i) 1 0 ((I1 y 2 i 1).toNatClampNeg)) := ⟨_, rfl⟩
    have hw2_y : wf (I2 y) := by rw [hI2]; exact wf_gR (by decide) hw1_y
    have hn2 : I2 y' = I y' := by rw [hI2]; exact (gR_ne _ _ _ _ hne).trans hn1
    have eS : f_X0_takeFar_s I y i = I2 := by subst hI1 hI2; simp only [f_X0_takeFar_s, if_neg c1]
    rw [eS]
    exact hn2
def f_X0_copyFrom (I : gI) (y i : Nat) (yo io : Nat) : gI :=
  let I1 := gR I y 3 i (va_cpy (I yo 3 io) (I y 3 i) 0 0 8)
  let I2 := gU I1 y 2 i 1 (I1 yo 2 io 1)
  I2
set_option maxHeartbeats 4000000 in
set_option maxRecDepth 100000 in
theorem m_X0_copyFrom (l : Launch) (E : gE) (J : Int64) (I : gI) (y i : Nat) (yo io : Nat) (hy : y < 2) (hi : i < 6) (hw : wf (I y)) (hyo : yo < 2) (hio : io < 6) (hwo : wf (I yo)) (hne : yo ≠ y) : gMv l E J yX0_copyFrom cX0_copyFrom 2 none 1 40 [.ref (gA E y 2 i), .ref (gA E yo 2 io)] I (f_X0_copyFrom I y i yo io) := by
  refine g_entry (lv := [(0, .ref (gA E y 2 i)), (1, .ref (gA E yo 2 io))]) (by decide) (Nat.le_of_ble_eq_true rfl) rfl ?_
  intro p e s m below meth c0 ls K hG hS hml hr hlocks hl
  have K : kx E p m c0 cX0_copyFrom "HayThieves$Cart" _ s := K
  have hx := K.1
  have hb := K.2.1
  have hts := K.2.2.1
  have hown := K.2.2.2.1
  have hSt := K.2.2.2.2
  refine lv_aload_n hx hb dX0_copyFrom_0 rfl (lv_at hl 1 rfl) ?_
  refine gf_X0_9 K hG (gv2 hyo hio) dX0_copyFrom_1 ?_
  refine lv_iconst (v := 0) hx hb dX0_copyFrom_4 (by decide) ?_
  refine lv_aload_n hx hb dX0_copyFrom_5 rfl (lv_at hl 0 rfl) ?_
  refine gf_X0_9 K hG (gv2 hy hi) dX0_copyFrom_6 ?_
  refine lv_iconst (v := 0) hx hb dX0_copyFrom_9 (by decide) ?_
  refine lv_aload_n hx hb dX0_copyFrom_10 rfl (lv_at hl 0 rfl) ?_
  refine gf_X0_9 K hG (gv2 hy hi) dX0_copyFrom_11 ?_
  refine g_alen (a := 0) (n := 8) K hG (gv3 hy hi) rfl rfl (v := 8) rfl dX0_copyFrom_14 ?_
  refine g_copy (a := 0) (ty := .int) K (hml.trans hl.1.symm) q582 hG hS (gv3 hyo hio) (gv3 hy hi) rfl rfl (fun _ => rfl) (fun _ => rfl) (by decide) rfl rfl (by decide) (by decide) (by decide) (by decide) (by decide) (fun _ _ => rfl) (by decide) (by decide) dX0_copyFrom_15 (fun I1 hI1 H locs hG hS => ?_)
  replace hI1 : I1 = gR I y 3 i (va_cpy (I yo 3 io) (I y 3 i) 0 0 8) := hI1
  have hw1_y : wf (I1 y) := by rw [hI1]; exact wf_gR (by decide) hw
  have hw1_yo : wf (I1 yo) := by rw [hI1]; exact wf_otherR (by omega) hwo
  have hq1_yo : I1 yo = I yo := by rw [hI1]; exact gR_ne _ _ _ _ (by omega)
  refine lv_aload_n hx hb dX0_copyFrom_18 rfl (lv_at hl 0 rfl) ?_
  refine lv_aload_n hx hb dX0_copyFrom_19 rfl (lv_at hl 1 rfl) ?_
  refine gf_X0_15 K hG (gv2 hyo hio) dX0_copyFrom_20 ?_
  refine pf_X0_15 K hG hS (gv2 hy hi) dX0_copyFrom_23 (fun I2 hI2 H locs hG hS => ?_)
  have hw2_y : wf (I2 y) := by rw [hI2]; exact wf_size (by rw [hq1_yo]; exact ⟨hwo.size hio, hwo.sizeE hio⟩) hw1_y
  have hw2_yo : wf (I2 yo) := by rw [hI2]; exact wf_other (by omega) hw1_yo
  have hq2_yo : I2 yo = I yo := by rw [hI2]; exact (gU_ne _ _ _ _ _ (by omega)).trans hq1_yo
  have eS : I2 = (f_X0_copyFrom I y i yo io) := (by subst hI1 hI2; simp only [f_X0_copyFrom])
  rw [eS] at hG
  exact g_vret K hG hS hr hlocks dX0_copyFrom_26
set_option maxRecDepth 100000 in
theorem wf_X0_copyFrom (I : gI) (y i : Nat) (yo io : Nat) (hy : y < 2) (hi : i < 6) (hw : wf (I y)) (hyo : yo < 2) (hio : io < 6) (hwo : wf (I yo)) (hne : yo ≠ y) : wf (f_X0_copyFrom I y i yo io y) := by
  obtain ⟨I1, hI1⟩ : ∃ z, z = gR I y 3 i (va_cpy (I yo 3 io) (I y 3 i) 0 0 8) := ⟨_, rfl⟩
  have hw1_y : wf (I1 y) := by rw [hI1]; exact wf_gR (by decide) hw
  have hw1_yo : wf (I1 yo) := by rw [hI1]; exact wf_otherR (by omega) hwo
  have hq1_yo : I1 yo = I yo := by rw [hI1]; exact gR_ne _ _ _ _ (by omega)
  obtain ⟨I2, hI2⟩ : ∃ z, z = gU I1 y 2 i 1 (I1 yo 2 io 1) := ⟨_, rfl⟩
  have hw2_y : wf (I2 y) := by rw [hI2]; exact wf_size (by rw [hq1_yo]; exact ⟨hwo.size hio, hwo.sizeE hio⟩) hw1_y
  have hw2_yo : wf (I2 yo) := by rw [hI2]; exact wf_other (by omega) hw1_yo
  have hq2_yo : I2 yo = I yo := by rw [hI2]; exact (gU_ne _ _ _ _ _ (by omega)).trans hq1_yo
  have eS : f_X0_copyFrom I y i yo io = I2 := by subst hI1 hI2; simp only [f_X0_copyFrom]
  rw [eS]
  exact hw2_y
set_option maxRecDepth 100000 in
theorem ne_X0_copyFrom (I : gI) (y i : Nat) (yo io : Nat) (hy : y < 2) (hi : i < 6) (hw : wf (I y)) (hyo : yo < 2) (hio : io < 6) (hwo : wf (I yo)) (hne : yo ≠ y) {y' : Nat} (hne : y' ≠ y) : f_X0_copyFrom I y i yo io y' = I y' := by
  have hn : I y' = I y' := rfl
  obtain ⟨I1, hI1⟩ : ∃ z, z = gR I y 3 i (va_cpy (I yo 3 io) (I y 3 i) 0 0 8) := ⟨_, rfl⟩
  have hw1_y : wf (I1 y) := by rw [hI1]; exact wf_gR (by decide) hw
  have hw1_yo : wf (I1 yo) := by rw [hI1]; exact wf_otherR (by omega) hwo
  have hq1_yo : I1 yo = I yo := by rw [hI1]; exact gR_ne _ _ _ _ (by omega)
  have hn1 : I1 y' = I y' := by rw [hI1]; exact (gR_ne _ _ _ _ hne).trans hn
  obtain ⟨I2, hI2⟩ : ∃ z, z = gU I1 y 2 i 1 (I1 yo 2 io 1) := ⟨_, rfl⟩
  have hw2_y : wf (I2 y) := by rw [hI2]; exact wf_size (by rw [hq1_yo]; exact ⟨hwo.size hio, hwo.sizeE hio⟩) hw1_y
  have hw2_yo : wf (I2 yo) := by rw [hI2]; exact wf_other (by omega) hw1_yo
  have hq2_yo : I2 yo = I yo := by rw [hI2]; exact (gU_ne _ _ _ _ _ (by omega)).trans hq1_yo
  have hn2 : I2 y' = I y' := by rw [hI2]; exact (gU_ne _ _ _ _ _ hne).trans hn1
  have eS : f_X0_copyFrom I y i yo io = I2 := by subst hI1 hI2; simp only [f_X0_copyFrom]
  rw [eS]
  exact hn2
end
section
/-! PRINTED by wip/gen (cls.py): X1 -/
def f_X1_doing (I : gI) (y i : Nat) : Int32 :=
  if (I y 1 i 7) = 0 then
    if (I y 1 i 6) = (-1) then
      if (I y 1 i 4) = (-1) then
        0
      else
        1
    else
      2
  else
    3
set_option maxHeartbeats 4000000 in
set_option maxRecDepth 100000 in
theorem m_X1_doing (l : Launch) (E : gE) (J : Int64) (I : gI) (y i : Nat) (hy : y < 2) (hi : i < 6) (hw : wf (I y)) : gMi l E J yX1_doing cX1_doing 1 (some .int) 0 0 [.ref (gA E y 1 i)] I (f_X1_doing I y i) I := by
  refine g_entry (lv := [(0, .ref (gA E y 1 i))]) (by decide) (Nat.le_of_ble_eq_true rfl) rfl ?_
  intro p e s m below meth c0 ls K hG hS hml hr hlocks hl
  have K : kx E p m c0 cX1_doing "HayThieves$Lad" _ s := K
  have hx := K.1
  have hb := K.2.1
  have hts := K.2.2.1
  have hown := K.2.2.2.1
  have hSt := K.2.2.2.2
  refine lv_aload_n hx hb dX1_doing_0 rfl (lv_at hl 0 rfl) ?_
  refine gf_X1_34 K hG (gv1 hy hi) dX1_doing_1 ?_
  refine lv_if_eq (tgt := 9) hx hb dX1_doing_4 (by decide) (fun c1 => ?_) (fun c1 => ?_)
  · refine lv_aload_n hx hb dX1_doing_9 rfl (lv_at hl 0 rfl) ?_
    refine gf_X1_31 K hG (gv1 hy hi) dX1_doing_10 ?_
    refine lv_iconst (v := (-1)) hx hb dX1_doing_13 (by decide) ?_
    refine lv_icmp_eq (tgt := 19) hx hb dX1_doing_14 (by decide) (fun c2 => ?_) (fun c2 => ?_)
    · refine lv_aload_n hx hb dX1_doing_19 rfl (lv_at hl 0 rfl) ?_
      refine gf_X1_25 K hG (gv1 hy hi) dX1_doing_20 ?_
      refine lv_iconst (v := (-1)) hx hb dX1_doing_23 (by decide) ?_
      refine lv_icmp_eq (tgt := 31) hx hb dX1_doing_24 (by decide) (fun c3 => ?_) (fun c3 => ?_)
      · refine lv_iconst (v := 0) hx hb dX1_doing_31 (by decide) ?_
        exact g_iret K hG hS hr hlocks (by simp only [f_X1_doing, if_pos c1, if_pos c2, if_pos c3]) dX1_doing_32
      · refine lv_iconst (v := 1) hx hb dX1_doing_27 (by decide) ?_
        refine lv_goto (tgt := 32) hx hb dX1_doing_28 (by decide) ?_
        exact g_iret K hG hS hr hlocks (by simp only [f_X1_doing, if_pos c1, if_pos c2, if_neg c3]) dX1_doing_32
    · refine lv_iconst (v := 2) hx hb dX1_doing_17 (by decide) ?_
      exact g_iret K hG hS hr hlocks (by simp only [f_X1_doing, if_pos c1, if_neg c2]) dX1_doing_18
  · refine lv_iconst (v := 3) hx hb dX1_doing_7 (by decide) ?_
    exact g_iret K hG hS hr hlocks (by simp only [f_X1_doing, if_neg c1]) dX1_doing_8
def f_X1_loadAtWork (I : gI) (y i : Nat) : Int32 :=
  if (I y 1 i 4) = (-1) then
    if (I y 1 i 6) = (-1) then
      (-1)
    else
      ((I y 1 i 6) / 32)
  else
    ((I y 1 i 4) / 32)
set_option maxHeartbeats 4000000 in
set_option maxRecDepth 100000 in
theorem m_X1_loadAtWork (l : Launch) (E : gE) (J : Int64) (I : gI) (y i : Nat) (hy : y < 2) (hi : i < 6) (hw : wf (I y)) : gMi l E J yX1_loadAtWork cX1_loadAtWork 2 (some .int) 0 0 [.ref (gA E y 1 i)] I (f_X1_loadAtWork I y i) I := by
  refine g_entry (lv := [(0, .ref (gA E y 1 i))]) (by decide) (Nat.le_of_ble_eq_true rfl) rfl ?_
  intro p e s m below meth c0 ls K hG hS hml hr hlocks hl
  have K : kx E p m c0 cX1_loadAtWork "HayThieves$Lad" _ s := K
  have hx := K.1
  have hb := K.2.1
  have hts := K.2.2.1
  have hown := K.2.2.2.1
  have hSt := K.2.2.2.2
  refine lv_aload_n hx hb dX1_loadAtWork_0 rfl (lv_at hl 0 rfl) ?_
  refine gf_X1_25 K hG (gv1 hy hi) dX1_loadAtWork_1 ?_
  refine lv_iconst (v := (-1)) hx hb dX1_loadAtWork_4 (by decide) ?_
  refine lv_icmp_eq (tgt := 15) hx hb dX1_loadAtWork_5 (by decide) (fun c1 => ?_) (fun c1 => ?_)
  · refine lv_aload_n hx hb dX1_loadAtWork_15 rfl (lv_at hl 0 rfl) ?_
    refine gf_X1_31 K hG (gv1 hy hi) dX1_loadAtWork_16 ?_
    refine lv_istore_n (lv' := [(1, .int (I y 1 i 6)), (0, .ref (gA E y 1 i))]) hx hb dX1_loadAtWork_19 rfl hl (by decide) rfl (fun ls hl => ?_)
    refine lv_iload_n hx hb dX1_loadAtWork_20 rfl (lv_at hl 0 rfl) ?_
    refine lv_iconst (v := (-1)) hx hb dX1_loadAtWork_21 (by decide) ?_
    refine lv_icmp_ne (tgt := 29) hx hb dX1_loadAtWork_22 (by decide) (fun c2 => ?_) (fun c2 => ?_)
    · refine lv_iload_n hx hb dX1_loadAtWork_29 rfl (lv_at hl 0 rfl) ?_
      refine lv_bipush (v := 32) hx hb dX1_loadAtWork_30 (by decide) ?_
      refine lv_idiv hx hb dX1_loadAtWork_32 (by decide) ?_
      exact g_iret K hG hS hr hlocks (by simp only [f_X1_loadAtWork, if_pos c1, if_neg c2]) dX1_loadAtWork_33
    · refine lv_iconst (v := (-1)) hx hb dX1_loadAtWork_25 (by decide) ?_
      refine lv_goto (tgt := 33) hx hb dX1_loadAtWork_26 (by decide) ?_
      exact g_iret K hG hS hr hlocks (by simp only [f_X1_loadAtWork, if_pos c1, if_pos c2]) dX1_loadAtWork_33
  · refine lv_aload_n hx hb dX1_loadAtWork_8 rfl (lv_at hl 0 rfl) ?_
    refine gf_X1_25 K hG (gv1 hy hi) dX1_loadAtWork_9 ?_
    refine lv_goto (tgt := 19) hx hb dX1_loadAtWork_12 (by decide) ?_
    refine lv_istore_n (lv' := [(1, .int (I y 1 i 4)), (0, .ref (gA E y 1 i))]) hx hb dX1_loadAtWork_19 rfl hl (by decide) rfl (fun ls hl => ?_)
    refine lv_iload_n hx hb dX1_loadAtWork_20 rfl (lv_at hl 0 rfl) ?_
    refine lv_iconst (v := (-1)) hx hb dX1_loadAtWork_21 (by decide) ?_
    refine lv_icmp_ne (tgt := 29) hx hb dX1_loadAtWork_22 (by decide) (fun c3 => ?_) (fun c3 => ?_)
    · refine lv_iload_n hx hb dX1_loadAtWork_29 rfl (lv_at hl 0 rfl) ?_
      refine lv_bipush (v := 32) hx hb dX1_loadAtWork_30 (by decide) ?_
      refine lv_idiv hx hb dX1_loadAtWork_32 (by decide) ?_
      exact g_iret K hG hS hr hlocks (by simp only [f_X1_loadAtWork, if_neg c1, if_neg c3]) dX1_loadAtWork_33
    · exact absurd c3 c1
def f_X1_tell (I : gI) (y i : Nat) (x : Int32) : Int32 :=
  if x = 0 then
    (I y 1 i 1)
  else
    if x = 1 then
      (I y 1 i 2)
    else
      if x = 2 then
        (I y 2 ((I y 1 i 3).toNatClampNeg) 1)
      else
        if x = 3 then
          (f_X1_doing I y i)
        else
          if x = 4 then
            (I y 1 i 5)
          else
            if x = 5 then
              (I y 1 i 10)
            else
              if x = 6 then
                (I y 1 i 11)
              else
                if x = 7 then
                  (I y 1 i 9)
                else
                  (f_X1_loadAtWork I y i)
set_option maxHeartbeats 4000000 in
set_option maxRecDepth 100000 in
theorem m_X1_tell (l : Launch) (E : gE) (J : Int64) (I : gI) (y i : Nat) (x : Int32) (hy : y < 2) (hi : i < 6) (hw : wf (I y)) : gMi l E J yX1_tell cX1_tell 2 (some .int) 1 21 [.ref (gA E y 1 i), .int x] I (f_X1_tell I y i x) I := by
  refine g_entry (lv := [(0, .ref (gA E y 1 i)), (1, .int x)]) (by decide) (Nat.le_of_ble_eq_true rfl) rfl ?_
  intro p e s m below meth c0 ls K hG hS hml hr hlocks hl
  have K : kx E p m c0 cX1_tell "HayThieves$Lad" _ s := K
  have hx := K.1
  have hb := K.2.1
  have hts := K.2.2.1
  have hown := K.2.2.2.1
  have hSt := K.2.2.2.2
  refine lv_iload_n hx hb dX1_tell_0 rfl (lv_at hl 1 rfl) ?_
  by_cases c1_0 : x = 0
  · refine lv_tableIn (off := 47) (tgt := 48) hx hb dX1_tell_1 (by rw [c1_0]; decide) (by rw [c1_0]; decide) (by rw [c1_0]; decide) (by decide) ?_
    refine lv_aload_n hx hb dX1_tell_48 rfl (lv_at hl 0 rfl) ?_
    refine gf_X1_9 K hG (gv1 hy hi) dX1_tell_49 ?_
    exact g_iret K hG hS hr hlocks (by simp only [f_X1_tell, if_pos c1_0]) dX1_tell_52
  by_cases c1_1 : x = 1
  · refine lv_tableIn (off := 52) (tgt := 53) hx hb dX1_tell_1 (by rw [c1_1]; decide) (by rw [c1_1]; decide) (by rw [c1_1]; decide) (by decide) ?_
    refine lv_aload_n hx hb dX1_tell_53 rfl (lv_at hl 0 rfl) ?_
    refine gf_X1_15 K hG (gv1 hy hi) dX1_tell_54 ?_
    exact g_iret K hG hS hr hlocks (by simp only [f_X1_tell, if_neg c1_0, if_pos c1_1]) dX1_tell_57
  by_cases c1_2 : x = 2
  · refine lv_tableIn (off := 57) (tgt := 58) hx hb dX1_tell_1 (by rw [c1_2]; decide) (by rw [c1_2]; decide) (by rw [c1_2]; decide) (by decide) ?_
    refine lv_aload_n hx hb dX1_tell_58 rfl (lv_at hl 0 rfl) ?_
    refine gf_X1_21 K hG (gv1 hy hi) dX1_tell_59 ?_
    refine gf_X1_53 K hG (gv2 hy (hw.cart hi)) dX1_tell_62 ?_
    exact g_iret K hG hS hr hlocks (by simp only [f_X1_tell, if_neg c1_0, if_neg c1_1, if_pos c1_2]) dX1_tell_65
  by_cases c1_3 : x = 3
  · refine lv_tableIn (off := 65) (tgt := 66) hx hb dX1_tell_1 (by rw [c1_3]; decide) (by rw [c1_3]; decide) (by rw [c1_3]; decide) (by decide) ?_
    refine lv_aload_n hx hb dX1_tell_66 rfl (lv_at hl 0 rfl) ?_
    refine g_ki (g_runV (As := []) (rest := []) K hml ca_X1_doing q211 (m_X1_doing l E J I y i hy hi hw) hG hS (gv1 hy hi) rfl rfl rfl rfl hl.1 (by decide) ⟨by decide, by decide⟩ dX1_tell_67 ⟨Nat.zero_le _, Nat.zero_le _⟩) hS (fun H locs hG hS => ?_)
    exact g_iret K hG hS hr hlocks (by simp only [f_X1_tell, if_neg c1_0, if_neg c1_1, if_neg c1_2, if_pos c1_3]) dX1_tell_70
  by_cases c1_4 : x = 4
  · refine lv_tableIn (off := 70) (tgt := 71) hx hb dX1_tell_1 (by rw [c1_4]; decide) (by rw [c1_4]; decide) (by rw [c1_4]; decide) (by decide) ?_
    refine lv_aload_n hx hb dX1_tell_71 rfl (lv_at hl 0 rfl) ?_
    refine gf_X1_28 K hG (gv1 hy hi) dX1_tell_72 ?_
    exact g_iret K hG hS hr hlocks (by simp only [f_X1_tell, if_neg c1_0, if_neg c1_1, if_neg c1_2, if_neg c1_3, if_pos c1_4]) dX1_tell_75
  by_cases c1_5 : x = 5
  · refine lv_tableIn (off := 75) (tgt := 76) hx hb dX1_tell_1 (by rw [c1_5]; decide) (by rw [c1_5]; decide) (by rw [c1_5]; decide) (by decide) ?_
    refine lv_aload_n hx hb dX1_tell_76 rfl (lv_at hl 0 rfl) ?_
    refine gf_X1_44 K hG (gv1 hy hi) dX1_tell_77 ?_
    exact g_iret K hG hS hr hlocks (by simp only [f_X1_tell, if_neg c1_0, if_neg c1_1, if_neg c1_2, if_neg c1_3, if_neg c1_4, if_pos c1_5]) dX1_tell_80
  by_cases c1_6 : x = 6
  · refine lv_tableIn (off := 80) (tgt := 81) hx hb dX1_tell_1 (by rw [c1_6]; decide) (by rw [c1_6]; decide) (by rw [c1_6]; decide) (by decide) ?_
    refine lv_aload_n hx hb dX1_tell_81 rfl (lv_at hl 0 rfl) ?_
    refine gf_X1_47 K hG (gv1 hy hi) dX1_tell_82 ?_
    exact g_iret K hG hS hr hlocks (by simp only [f_X1_tell, if_neg c1_0, if_neg c1_1, if_neg c1_2, if_neg c1_3, if_neg c1_4, if_neg c1_5, if_pos c1_6]) dX1_tell_85
  by_cases c1_7 : x = 7
  · refine lv_tableIn (off := 85) (tgt := 86) hx hb dX1_tell_1 (by rw [c1_7]; decide) (by rw [c1_7]; decide) (by rw [c1_7]; decide) (by decide) ?_
    refine lv_aload_n hx hb dX1_tell_86 rfl (lv_at hl 0 rfl) ?_
    refine gf_X1_41 K hG (gv1 hy hi) dX1_tell_87 ?_
    exact g_iret K hG hS hr hlocks (by simp only [f_X1_tell, if_neg c1_0, if_neg c1_1, if_neg c1_2, if_neg c1_3, if_neg c1_4, if_neg c1_5, if_neg c1_6, if_pos c1_7]) dX1_tell_90
  refine lv_tableOut (tgt := 91) hx hb dX1_tell_1 (gsw_0_7 c1_0 c1_1 c1_2 c1_3 c1_4 c1_5 c1_6 c1_7) (by decide) ?_
  refine lv_aload_n hx hb dX1_tell_91 rfl (lv_at hl 0 rfl) ?_
  refine g_ki (g_runV (As := []) (rest := []) K hml ca_X1_loadAtWork q215 (m_X1_loadAtWork l E J I y i hy hi hw) hG hS (gv1 hy hi) rfl rfl rfl rfl hl.1 (by decide) ⟨by decide, by decide⟩ dX1_tell_92 ⟨Nat.zero_le _, Nat.zero_le _⟩) hS (fun H locs hG hS => ?_)
  exact g_iret K hG hS hr hlocks (by simp only [f_X1_tell, if_neg c1_0, if_neg c1_1, if_neg c1_2, if_neg c1_3, if_neg c1_4, if_neg c1_5, if_neg c1_6, if_neg c1_7]) dX1_tell_95
def f_X1_take (I : gI) (y i : Nat) (x b : Int32) : gI :=
  let I1 := gU I y 1 i 4 x
  let I2 := gU I1 y 1 i 5 b
  I2
set_option maxHeartbeats 4000000 in
set_option maxRecDepth 100000 in
theorem m_X1_take (l : Launch) (E : gE) (J : Int64) (I : gI) (y i : Nat) (x b : Int32) (hy : y < 2) (hi : i < 6) (hw : wf (I y)) : gMv l E J yX1_take cX1_take 3 none 0 0 [.ref (gA E y 1 i), .int x, .int b] I (f_X1_take I y i x b) := by
  refine g_entry (lv := [(0, .ref (gA E y 1 i)), (1, .int x), (2, .int b)]) (by decide) (Nat.le_of_ble_eq_true rfl) rfl ?_
  intro p e s m below meth c0 ls K hG hS hml hr hlocks hl
  have K : kx E p m c0 cX1_take "HayThieves$Lad" _ s := K
  have hx := K.1
  have hb := K.2.1
  have hts := K.2.2.1
  have hown := K.2.2.2.1
  have hSt := K.2.2.2.2
  refine lv_aload_n hx hb dX1_take_0 rfl (lv_at hl 0 rfl) ?_
  refine lv_iload_n hx hb dX1_take_1 rfl (lv_at hl 1 rfl) ?_
  refine pf_X1_25 K hG hS (gv1 hy hi) dX1_take_2 (fun I1 hI1 H locs hG hS => ?_)
  have hw1_y : wf (I1 y) := by rw [hI1]; exact wf_gU rfl hw
  refine lv_aload_n hx hb dX1_take_5 rfl (lv_at hl 0 rfl) ?_
  refine lv_iload_n hx hb dX1_take_6 rfl (lv_at hl 2 rfl) ?_
  refine pf_X1_28 K hG hS (gv1 hy hi) dX1_take_7 (fun I2 hI2 H locs hG hS => ?_)
  have hw2_y : wf (I2 y) := by rw [hI2]; exact wf_gU rfl hw1_y
  have eS : I2 = (f_X1_take I y i x b) := (by subst hI1 hI2; simp only [f_X1_take])
  rw [eS] at hG
  exact g_vret K hG hS hr hlocks dX1_take_10
set_option maxRecDepth 100000 in
theorem wf_X1_take (I : gI) (y i : Nat) (x b : Int32) (hy : y < 2) (hi : i < 6) (hw : wf (I y)) : wf (f_X1_take I y i x b y) := by
  obtain ⟨I1, hI1⟩ : ∃ z, z = gU I y 1 i 4 x := ⟨_, rfl⟩
  have hw1_y : wf (I1 y) := by rw [hI1]; exact wf_gU rfl hw
  obtain ⟨I2, hI2⟩ : ∃ z, z = gU I1 y 1 i 5 b := ⟨_, rfl⟩
  have hw2_y : wf (I2 y) := by rw [hI2]; exact wf_gU rfl hw1_y
  have eS : f_X1_take I y i x b = I2 := by subst hI1 hI2; simp only [f_X1_take]
  rw [eS]
  exact hw2_y
set_option maxRecDepth 100000 in
theorem ne_X1_take (I : gI) (y i : Nat) (x b : Int32) (hy : y < 2) (hi : i < 6) (hw : wf (I y)) {y' : Nat} (hne : y' ≠ y) : f_X1_take I y i x b y' = I y' := by
  have hn : I y' = I y' := rfl
  obtain ⟨I1, hI1⟩ : ∃ z, z = gU I y 1 i 4 x := ⟨_, rfl⟩
  have hw1_y : wf (I1 y) := by rw [hI1]; exact wf_gU rfl hw
  have hn1 : I1 y' = I y' := by rw [hI1]; exact (gU_ne _ _ _ _ _ hne).trans hn
  obtain ⟨I2, hI2⟩ : ∃ z, z = gU I1 y 1 i 5 b := ⟨_, rfl⟩
  have hw2_y : wf (I2 y) := by rw [hI2]; exact wf_gU rfl hw1_y
  have hn2 : I2 y' = I y' := by rw [hI2]; exact (gU_ne _ _ _ _ _ hne).trans hn1
  have eS : f_X1_take I y i x b = I2 := by subst hI1 hI2; simp only [f_X1_take]
  rw [eS]
  exact hn2
def f_X1_beIdle (I : gI) (y i : Nat) : gI :=
  let I1 := gU I y 1 i 9 ((I y 1 i 9) + 1)
  let I2 := gU I1 y 1 i 8 ((I1 y 1 i 8) + 1)
  if (I2 y 1 i 8) < 3 then
    I2
  else
    let I3 := gU I2 y 1 i 7 1
    let I4 := gU I3 y 1 i 8 0
    I4
set_option maxHeartbeats 4000000 in
set_option maxRecDepth 100000 in
theorem m_X1_beIdle (l : Launch) (E : gE) (J : Int64) (I : gI) (y i : Nat) (hy : y < 2) (hi : i < 6) (hw : wf (I y)) : gMv l E J yX1_beIdle cX1_beIdle 1 none 0 0 [.ref (gA E y 1 i)] I (f_X1_beIdle I y i) := by
  refine g_entry (lv := [(0, .ref (gA E y 1 i))]) (by decide) (Nat.le_of_ble_eq_true rfl) rfl ?_
  intro p e s m below meth c0 ls K hG hS hml hr hlocks hl
  have K : kx E p m c0 cX1_beIdle "HayThieves$Lad" _ s := K
  have hx := K.1
  have hb := K.2.1
  have hts := K.2.2.1
  have hown := K.2.2.2.1
  have hSt := K.2.2.2.2
  refine lv_aload_n hx hb dX1_beIdle_0 rfl (lv_at hl 0 rfl) ?_
  refine lv_dup hx hb dX1_beIdle_1 rfl ?_
  refine gf_X1_41 K hG (gv1 hy hi) dX1_beIdle_2 ?_
  refine lv_iconst (v := 1) hx hb dX1_beIdle_5 (by decide) ?_
  refine lv_iadd hx hb dX1_beIdle_6 ?_
  refine pf_X1_41 K hG hS (gv1 hy hi) dX1_beIdle_7 (fun I1 hI1 H locs hG hS => ?_)
  have hw1_y : wf (I1 y) := by rw [hI1]; exact wf_gU rfl hw
  refine lv_aload_n hx hb dX1_beIdle_10 rfl (lv_at hl 0 rfl) ?_
  refine lv_dup hx hb dX1_beIdle_11 rfl ?_
  refine gf_X1_38 K hG (gv1 hy hi) dX1_beIdle_12 ?_
  refine lv_iconst (v := 1) hx hb dX1_beIdle_15 (by decide) ?_
  refine lv_iadd hx hb dX1_beIdle_16 ?_
  refine pf_X1_38 K hG hS (gv1 hy hi) dX1_beIdle_17 (fun I2 hI2 H locs hG hS => ?_)
  have hw2_y : wf (I2 y) := by rw [hI2]; exact wf_gU rfl hw1_y
  refine lv_aload_n hx hb dX1_beIdle_20 rfl (lv_at hl 0 rfl) ?_
  refine gf_X1_38 K hG (gv1 hy hi) dX1_beIdle_21 ?_
  refine lv_iconst (v := 3) hx hb dX1_beIdle_24 (by decide) ?_
  refine lv_icmp_lt (tgt := 38) hx hb dX1_beIdle_25 (by decide) (fun c1 => ?_) (fun c1 => ?_)
  · have eS : I2 = (f_X1_beIdle I y i) := (by subst hI1 hI2; simp only [f_X1_beIdle, if_pos c1])
    rw [eS] at hG
    exact g_vret K hG hS hr hlocks dX1_beIdle_38
  · refine lv_aload_n hx hb dX1_beIdle_28 rfl (lv_at hl 0 rfl) ?_
    refine lv_iconst (v := 1) hx hb dX1_beIdle_29 (by decide) ?_
    refine pf_X1_34 K hG hS (gv1 hy hi) gz1 dX1_beIdle_30 (fun I3 hI3 H locs hG hS => ?_)
    have hw3_y : wf (I3 y) := by rw [hI3]; exact wf_gU rfl hw2_y
    refine lv_aload_n hx hb dX1_beIdle_33 rfl (lv_at hl 0 rfl) ?_
    refine lv_iconst (v := 0) hx hb dX1_beIdle_34 (by decide) ?_
    refine pf_X1_38 K hG hS (gv1 hy hi) dX1_beIdle_35 (fun I4 hI4 H locs hG hS => ?_)
    have hw4_y : wf (I4 y) := by rw [hI4]; exact wf_gU rfl hw3_y
    have eS : I4 = (f_X1_beIdle I y i) := (by subst hI1 hI2 hI3 hI4; simp only [f_X1_beIdle, if_neg c1])
    rw [eS] at hG
    exact g_vret K hG hS hr hlocks dX1_beIdle_38
set_option maxRecDepth 100000 in
theorem wf_X1_beIdle (I : gI) (y i : Nat) (hy : y < 2) (hi : i < 6) (hw : wf (I y)) : wf (f_X1_beIdle I y i y) := by
  obtain ⟨I1, hI1⟩ : ∃ z, z = gU I y 1 i 9 ((I y 1 i 9) + 1) := ⟨_, rfl⟩
  have hw1_y : wf (I1 y) := by rw [hI1]; exact wf_gU rfl hw
  obtain ⟨I2, hI2⟩ : ∃ z, z = gU I1 y 1 i 8 ((I1 y 1 i 8) + 1) := ⟨_, rfl⟩
  have hw2_y : wf (I2 y) := by rw [hI2]; exact wf_gU rfl hw1_y
  by_cases c1 : (I2 y 1 i 8) < 3
  · have eS : f_X1_beIdle I y i = I2 := by subst hI1 hI2; simp only [f_X1_beIdle, if_pos c1]
    rw [eS]
    exact hw2_y
  · obtain ⟨I3, hI3⟩ : ∃ z, z = gU I2 y 1 i 7 1 := ⟨_, rfl⟩
    have hw3_y : wf (I3 y) := by rw [hI3]; exact wf_gU rfl hw2_y
    obtain ⟨I4, hI4⟩ : ∃ z, z = gU I3 y 1 i 8 0 := ⟨_, rfl⟩
    have hw4_y : wf (I4 y) := by rw [hI4]; exact wf_gU rfl hw3_y
    have eS : f_X1_beIdle I y i = I4 := by subst hI1 hI2 hI3 hI4; simp only [f_X1_beIdle, if_neg c1]
    rw [eS]
    exact hw4_y
set_option maxRecDepth 100000 in
theorem ne_X1_beIdle (I : gI) (y i : Nat) (hy : y < 2) (hi : i < 6) (hw : wf (I y)) {y' : Nat} (hne : y' ≠ y) : f_X1_beIdle I y i y' = I y' := by
  have hn : I y' = I y' := rfl
  obtain ⟨I1, hI1⟩ : ∃ z, z = gU I y 1 i 9 ((I y 1 i 9) + 1) := ⟨_, rfl⟩
  have hw1_y : wf (I1 y) := by rw [hI1]; exact wf_gU rfl hw
  have hn1 : I1 y' = I y' := by rw [hI1]; exact (gU_ne _ _ _ _ _ hne).trans hn
  obtain ⟨I2, hI2⟩ : ∃ z, z = gU I1 y 1 i 8 ((I1 y 1 i 8) + 1) := ⟨_, rfl⟩
  have hw2_y : wf (I2 y) := by rw [hI2]; exact wf_gU rfl hw1_y
  have hn2 : I2 y' = I y' := by rw [hI2]; exact (gU_ne _ _ _ _ _ hne).trans hn1
  by_cases c1 : (I2 y 1 i 8) < 3
  · have eS : f_X1_beIdle I y i = I2 := by subst hI1 hI2; simp only [f_X1_beIdle, if_pos c1]
    rw [eS]
    exact hn2
  · obtain ⟨I3, hI3⟩ : ∃ z, z = gU I2 y 1 i 7 1 := ⟨_, rfl⟩
    have hw3_y : wf (I3 y) := by rw [hI3]; exact wf_gU rfl hw2_y
    have hn3 : I3 y' = I y' := by rw [hI3]; exact (gU_ne _ _ _ _ _ hne).trans hn2
    obtain ⟨I4, hI4⟩ : ∃ z, z = gU I3 y 1 i 8 0 := ⟨_, rfl⟩
    have hw4_y : wf (I4 y) := by rw [hI4]; exact wf_gU rfl hw3_y
    have hn4 : I4 y' = I y' := by rw [hI4]; exact (gU_ne _ _ _ _ _ hne).trans hn3
    have eS : f_X1_beIdle I y i = I4 := by subst hI1 hI2 hI3 hI4; simp only [f_X1_beIdle, if_neg c1]
    rw [eS]
    exact hn4
def f_X1_copyFrom (I : gI) (y i : Nat) (yo io : Nat) : gI :=
  let I1 := gU I y 1 i 1 (I yo 1 io 1)
  let I2 := gU I1 y 1 i 2 (I1 yo 1 io 2)
  let I3 := f_X0_copyFrom I2 y ((I2 y 1 i 3).toNatClampNeg) yo ((I2 yo 1 io 3).toNatClampNeg)
  let I4 := gU I3 y 1 i 4 (I3 yo 1 io 4)
  let I5 := gU I4 y 1 i 5 (I4 yo 1 io 5)
  let I6 := gU I5 y 1 i 6 (I5 yo 1 io 6)
  let I7 := gU I6 y 1 i 7 (I6 yo 1 io 7)
  let I8 := gU I7 y 1 i 8 (I7 yo 1 io 8)
  let I9 := gU I8 y 1 i 9 (I8 yo 1 io 9)
  let I10 := gU I9 y 1 i 10 (I9 yo 1 io 10)
  let I11 := gU I10 y 1 i 11 (I10 yo 1 io 11)
  I11
set_option maxHeartbeats 4000000 in
set_option maxRecDepth 100000 in
theorem m_X1_copyFrom (l : Launch) (E : gE) (J : Int64) (I : gI) (y i : Nat) (yo io : Nat) (hy : y < 2) (hi : i < 6) (hw : wf (I y)) (hyo : yo < 2) (hio : io < 6) (hwo : wf (I yo)) (hne : yo ≠ y) (hz : I yo 1 io 7 = 0 ∨ I yo 1 io 7 = 1) : gMv l E J yX1_copyFrom cX1_copyFrom 2 none 2 61 [.ref (gA E y 1 i), .ref (gA E yo 1 io)] I (f_X1_copyFrom I y i yo io) := by
  refine g_entry (lv := [(0, .ref (gA E y 1 i)), (1, .ref (gA E yo 1 io))]) (by decide) (Nat.le_of_ble_eq_true rfl) rfl ?_
  intro p e s m below meth c0 ls K hG hS hml hr hlocks hl
  have K : kx E p m c0 cX1_copyFrom "HayThieves$Lad" _ s := K
  have hx := K.1
  have hb := K.2.1
  have hts := K.2.2.1
  have hown := K.2.2.2.1
  have hSt := K.2.2.2.2
  refine lv_aload_n hx hb dX1_copyFrom_0 rfl (lv_at hl 0 rfl) ?_
  refine lv_aload_n hx hb dX1_copyFrom_1 rfl (lv_at hl 1 rfl) ?_
  refine gf_X1_9 K hG (gv1 hyo hio) dX1_copyFrom_2 ?_
  refine pf_X1_9 K hG hS (gv1 hy hi) dX1_copyFrom_5 (fun I1 hI1 H locs hG hS => ?_)
  have hw1_y : wf (I1 y) := by rw [hI1]; exact wf_gU rfl hw
  have hw1_yo : wf (I1 yo) := by rw [hI1]; exact wf_other (by omega) hwo
  have hq1_yo : I1 yo = I yo := by rw [hI1]; exact gU_ne _ _ _ _ _ (by omega)
  refine lv_aload_n hx hb dX1_copyFrom_8 rfl (lv_at hl 0 rfl) ?_
  refine lv_aload_n hx hb dX1_copyFrom_9 rfl (lv_at hl 1 rfl) ?_
  refine gf_X1_15 K hG (gv1 hyo hio) dX1_copyFrom_10 ?_
  refine pf_X1_15 K hG hS (gv1 hy hi) dX1_copyFrom_13 (fun I2 hI2 H locs hG hS => ?_)
  have hw2_y : wf (I2 y) := by rw [hI2]; exact wf_gU rfl hw1_y
  have hw2_yo : wf (I2 yo) := by rw [hI2]; exact wf_other (by omega) hw1_yo
  have hq2_yo : I2 yo = I yo := by rw [hI2]; exact (gU_ne _ _ _ _ _ (by omega)).trans hq1_yo
  refine lv_aload_n hx hb dX1_copyFrom_16 rfl (lv_at hl 0 rfl) ?_
  refine gf_X1_21 K hG (gv1 hy hi) dX1_copyFrom_17 ?_
  refine lv_aload_n hx hb dX1_copyFrom_20 rfl (lv_at hl 1 rfl) ?_
  refine gf_X1_21 K hG (gv1 hyo hio) dX1_copyFrom_21 ?_
  refine g_kv (g_runV (As := [.ref (gA E yo 2 ((I2 yo 1 io 3).toNatClampNeg))]) (rest := []) K hml ca_X0_copyFrom q604 (m_X0_copyFrom l E J I2 y ((I2 y 1 i 3).toNatClampNeg) yo ((I2 yo 1 io 3).toNatClampNeg) hy (hw2_y.cart hi) hw2_y hyo (hw2_yo.cart hio) hw2_yo (by omega)) hG hS (gv2 hy (hw2_y.cart hi)) rfl rfl rfl rfl hl.1 (by decide) ⟨by decide, by decide⟩ dX1_copyFrom_24 ⟨Nat.zero_le _, Nat.zero_le _⟩) hS (fun H locs hG hS => ?_)
  obtain ⟨I3, hI3⟩ : ∃ z, z = f_X0_copyFrom I2 y ((I2 y 1 i 3).toNatClampNeg) yo ((I2 yo 1 io 3).toNatClampNeg) := ⟨_, rfl⟩
  rw [← hI3] at hG
  have hw3_y : wf (I3 y) := by rw [hI3]; exact wf_X0_copyFrom I2 y ((I2 y 1 i 3).toNatClampNeg) yo ((I2 yo 1 io 3).toNatClampNeg) hy (hw2_y.cart hi) hw2_y hyo (hw2_yo.cart hio) hw2_yo (by omega)
  have hw3_yo : wf (I3 yo) := by rw [hI3]; exact wf_ne ((ne_X0_copyFrom I2 y ((I2 y 1 i 3).toNatClampNeg) yo ((I2 yo 1 io 3).toNatClampNeg) hy (hw2_y.cart hi) hw2_y hyo (hw2_yo.cart hio) hw2_yo (by omega) (y' := yo) (by omega))) hw2_yo
  have hq3_yo : I3 yo = I yo := by rw [hI3]; exact (ne_X0_copyFrom I2 y ((I2 y 1 i 3).toNatClampNeg) yo ((I2 yo 1 io 3).toNatClampNeg) hy (hw2_y.cart hi) hw2_y hyo (hw2_yo.cart hio) hw2_yo (by omega) (y' := yo) (by omega)).trans hq2_yo
  refine lv_aload_n hx hb dX1_copyFrom_27 rfl (lv_at hl 0 rfl) ?_
  refine lv_aload_n hx hb dX1_copyFrom_28 rfl (lv_at hl 1 rfl) ?_
  refine gf_X1_25 K hG (gv1 hyo hio) dX1_copyFrom_29 ?_
  refine pf_X1_25 K hG hS (gv1 hy hi) dX1_copyFrom_32 (fun I4 hI4 H locs hG hS => ?_)
  have hw4_y : wf (I4 y) := by rw [hI4]; exact wf_gU rfl hw3_y
  have hw4_yo : wf (I4 yo) := by rw [hI4]; exact wf_other (by omega) hw3_yo
  have hq4_yo : I4 yo = I yo := by rw [hI4]; exact (gU_ne _ _ _ _ _ (by omega)).trans hq3_yo
  refine lv_aload_n hx hb dX1_copyFrom_35 rfl (lv_at hl 0 rfl) ?_
  refine lv_aload_n hx hb dX1_copyFrom_36 rfl (lv_at hl 1 rfl) ?_
  refine gf_X1_28 K hG (gv1 hyo hio) dX1_copyFrom_37 ?_
  refine pf_X1_28 K hG hS (gv1 hy hi) dX1_copyFrom_40 (fun I5 hI5 H locs hG hS => ?_)
  have hw5_y : wf (I5 y) := by rw [hI5]; exact wf_gU rfl hw4_y
  have hw5_yo : wf (I5 yo) := by rw [hI5]; exact wf_other (by omega) hw4_yo
  have hq5_yo : I5 yo = I yo := by rw [hI5]; exact (gU_ne _ _ _ _ _ (by omega)).trans hq4_yo
  refine lv_aload_n hx hb dX1_copyFrom_43 rfl (lv_at hl 0 rfl) ?_
  refine lv_aload_n hx hb dX1_copyFrom_44 rfl (lv_at hl 1 rfl) ?_
  refine gf_X1_31 K hG (gv1 hyo hio) dX1_copyFrom_45 ?_
  refine pf_X1_31 K hG hS (gv1 hy hi) dX1_copyFrom_48 (fun I6 hI6 H locs hG hS => ?_)
  have hw6_y : wf (I6 y) := by rw [hI6]; exact wf_gU rfl hw5_y
  have hw6_yo : wf (I6 yo) := by rw [hI6]; exact wf_other (by omega) hw5_yo
  have hq6_yo : I6 yo = I yo := by rw [hI6]; exact (gU_ne _ _ _ _ _ (by omega)).trans hq5_yo
  refine lv_aload_n hx hb dX1_copyFrom_51 rfl (lv_at hl 0 rfl) ?_
  refine lv_aload_n hx hb dX1_copyFrom_52 rfl (lv_at hl 1 rfl) ?_
  refine gf_X1_34 K hG (gv1 hyo hio) dX1_copyFrom_53 ?_
  refine pf_X1_34 K hG hS (gv1 hy hi) (by rw [hq6_yo]; exact hz) dX1_copyFrom_56 (fun I7 hI7 H locs hG hS => ?_)
  have hw7_y : wf (I7 y) := by rw [hI7]; exact wf_gU rfl hw6_y
  have hw7_yo : wf (I7 yo) := by rw [hI7]; exact wf_other (by omega) hw6_yo
  have hq7_yo : I7 yo = I yo := by rw [hI7]; exact (gU_ne _ _ _ _ _ (by omega)).trans hq6_yo
  refine lv_aload_n hx hb dX1_copyFrom_59 rfl (lv_at hl 0 rfl) ?_
  refine lv_aload_n hx hb dX1_copyFrom_60 rfl (lv_at hl 1 rfl) ?_
  refine gf_X1_38 K hG (gv1 hyo hio) dX1_copyFrom_61 ?_
  refine pf_X1_38 K hG hS (gv1 hy hi) dX1_copyFrom_64 (fun I8 hI8 H locs hG hS => ?_)
  have hw8_y : wf (I8 y) := by rw [hI8]; exact wf_gU rfl hw7_y
  have hw8_yo : wf (I8 yo) := by rw [hI8]; exact wf_other (by omega) hw7_yo
  have hq8_yo : I8 yo = I yo := by rw [hI8]; exact (gU_ne _ _ _ _ _ (by omega)).trans hq7_yo
  refine lv_aload_n hx hb dX1_copyFrom_67 rfl (lv_at hl 0 rfl) ?_
  refine lv_aload_n hx hb dX1_copyFrom_68 rfl (lv_at hl 1 rfl) ?_
  refine gf_X1_41 K hG (gv1 hyo hio) dX1_copyFrom_69 ?_
  refine pf_X1_41 K hG hS (gv1 hy hi) dX1_copyFrom_72 (fun I9 hI9 H locs hG hS => ?_)
  have hw9_y : wf (I9 y) := by rw [hI9]; exact wf_gU rfl hw8_y
  have hw9_yo : wf (I9 yo) := by rw [hI9]; exact wf_other (by omega) hw8_yo
  have hq9_yo : I9 yo = I yo := by rw [hI9]; exact (gU_ne _ _ _ _ _ (by omega)).trans hq8_yo
  refine lv_aload_n hx hb dX1_copyFrom_75 rfl (lv_at hl 0 rfl) ?_
  refine lv_aload_n hx hb dX1_copyFrom_76 rfl (lv_at hl 1 rfl) ?_
  refine gf_X1_44 K hG (gv1 hyo hio) dX1_copyFrom_77 ?_
  refine pf_X1_44 K hG hS (gv1 hy hi) dX1_copyFrom_80 (fun I10 hI10 H locs hG hS => ?_)
  have hw10_y : wf (I10 y) := by rw [hI10]; exact wf_gU rfl hw9_y
  have hw10_yo : wf (I10 yo) := by rw [hI10]; exact wf_other (by omega) hw9_yo
  have hq10_yo : I10 yo = I yo := by rw [hI10]; exact (gU_ne _ _ _ _ _ (by omega)).trans hq9_yo
  refine lv_aload_n hx hb dX1_copyFrom_83 rfl (lv_at hl 0 rfl) ?_
  refine lv_aload_n hx hb dX1_copyFrom_84 rfl (lv_at hl 1 rfl) ?_
  refine gf_X1_47 K hG (gv1 hyo hio) dX1_copyFrom_85 ?_
  refine pf_X1_47 K hG hS (gv1 hy hi) dX1_copyFrom_88 (fun I11 hI11 H locs hG hS => ?_)
  have hw11_y : wf (I11 y) := by rw [hI11]; exact wf_gU rfl hw10_y
  have hw11_yo : wf (I11 yo) := by rw [hI11]; exact wf_other (by omega) hw10_yo
  have hq11_yo : I11 yo = I yo := by rw [hI11]; exact (gU_ne _ _ _ _ _ (by omega)).trans hq10_yo
  have eS : I11 = (f_X1_copyFrom I y i yo io) := (by subst hI1 hI2 hI3 hI4 hI5 hI6 hI7 hI8 hI9 hI10 hI11; simp only [f_X1_copyFrom])
  rw [eS] at hG
  exact g_vret K hG hS hr hlocks dX1_copyFrom_91
set_option maxRecDepth 100000 in
theorem wf_X1_copyFrom (I : gI) (y i : Nat) (yo io : Nat) (hy : y < 2) (hi : i < 6) (hw : wf (I y)) (hyo : yo < 2) (hio : io < 6) (hwo : wf (I yo)) (hne : yo ≠ y) (hz : I yo 1 io 7 = 0 ∨ I yo 1 io 7 = 1) : wf (f_X1_copyFrom I y i yo io y) := by
  obtain ⟨I1, hI1⟩ : ∃ z, z = gU I y 1 i 1 (I yo 1 io 1) := ⟨_, rfl⟩
  have hw1_y : wf (I1 y) := by rw [hI1]; exact wf_gU rfl hw
  have hw1_yo : wf (I1 yo) := by rw [hI1]; exact wf_other (by omega) hwo
  have hq1_yo : I1 yo = I yo := by rw [hI1]; exact gU_ne _ _ _ _ _ (by omega)
  obtain ⟨I2, hI2⟩ : ∃ z, z = gU I1 y 1 i 2 (I1 yo 1 io 2) := ⟨_, rfl⟩
  have hw2_y : wf (I2 y) := by rw [hI2]; exact wf_gU rfl hw1_y
  have hw2_yo : wf (I2 yo) := by rw [hI2]; exact wf_other (by omega) hw1_yo
  have hq2_yo : I2 yo = I yo := by rw [hI2]; exact (gU_ne _ _ _ _ _ (by omega)).trans hq1_yo
  obtain ⟨I3, hI3⟩ : ∃ z, z = f_X0_copyFrom I2 y ((I2 y 1 i 3).toNatClampNeg) yo ((I2 yo 1 io 3).toNatClampNeg) := ⟨_, rfl⟩
  have hw3_y : wf (I3 y) := by rw [hI3]; exact wf_X0_copyFrom I2 y ((I2 y 1 i 3).toNatClampNeg) yo ((I2 yo 1 io 3).toNatClampNeg) hy (hw2_y.cart hi) hw2_y hyo (hw2_yo.cart hio) hw2_yo (by omega)
  have hw3_yo : wf (I3 yo) := by rw [hI3]; exact wf_ne ((ne_X0_copyFrom I2 y ((I2 y 1 i 3).toNatClampNeg) yo ((I2 yo 1 io 3).toNatClampNeg) hy (hw2_y.cart hi) hw2_y hyo (hw2_yo.cart hio) hw2_yo (by omega) (y' := yo) (by omega))) hw2_yo
  have hq3_yo : I3 yo = I yo := by rw [hI3]; exact (ne_X0_copyFrom I2 y ((I2 y 1 i 3).toNatClampNeg) yo ((I2 yo 1 io 3).toNatClampNeg) hy (hw2_y.cart hi) hw2_y hyo (hw2_yo.cart hio) hw2_yo (by omega) (y' := yo) (by omega)).trans hq2_yo
  obtain ⟨I4, hI4⟩ : ∃ z, z = gU I3 y 1 i 4 (I3 yo 1 io 4) := ⟨_, rfl⟩
  have hw4_y : wf (I4 y) := by rw [hI4]; exact wf_gU rfl hw3_y
  have hw4_yo : wf (I4 yo) := by rw [hI4]; exact wf_other (by omega) hw3_yo
  have hq4_yo : I4 yo = I yo := by rw [hI4]; exact (gU_ne _ _ _ _ _ (by omega)).trans hq3_yo
  obtain ⟨I5, hI5⟩ : ∃ z, z = gU I4 y 1 i 5 (I4 yo 1 io 5) := ⟨_, rfl⟩
  have hw5_y : wf (I5 y) := by rw [hI5]; exact wf_gU rfl hw4_y
  have hw5_yo : wf (I5 yo) := by rw [hI5]; exact wf_other (by omega) hw4_yo
  have hq5_yo : I5 yo = I yo := by rw [hI5]; exact (gU_ne _ _ _ _ _ (by omega)).trans hq4_yo
  obtain ⟨I6, hI6⟩ : ∃ z, z = gU I5 y 1 i 6 (I5 yo 1 io 6) := ⟨_, rfl⟩
  have hw6_y : wf (I6 y) := by rw [hI6]; exact wf_gU rfl hw5_y
  have hw6_yo : wf (I6 yo) := by rw [hI6]; exact wf_other (by omega) hw5_yo
  have hq6_yo : I6 yo = I yo := by rw [hI6]; exact (gU_ne _ _ _ _ _ (by omega)).trans hq5_yo
  obtain ⟨I7, hI7⟩ : ∃ z, z = gU I6 y 1 i 7 (I6 yo 1 io 7) := ⟨_, rfl⟩
  have hw7_y : wf (I7 y) := by rw [hI7]; exact wf_gU rfl hw6_y
  have hw7_yo : wf (I7 yo) := by rw [hI7]; exact wf_other (by omega) hw6_yo
  have hq7_yo : I7 yo = I yo := by rw [hI7]; exact (gU_ne _ _ _ _ _ (by omega)).trans hq6_yo
  obtain ⟨I8, hI8⟩ : ∃ z, z = gU I7 y 1 i 8 (I7 yo 1 io 8) := ⟨_, rfl⟩
  have hw8_y : wf (I8 y) := by rw [hI8]; exact wf_gU rfl hw7_y
  have hw8_yo : wf (I8 yo) := by rw [hI8]; exact wf_other (by omega) hw7_yo
  have hq8_yo : I8 yo = I yo := by rw [hI8]; exact (gU_ne _ _ _ _ _ (by omega)).trans hq7_yo
  obtain ⟨I9, hI9⟩ : ∃ z, z = gU I8 y 1 i 9 (I8 yo 1 io 9) := ⟨_, rfl⟩
  have hw9_y : wf (I9 y) := by rw [hI9]; exact wf_gU rfl hw8_y
  have hw9_yo : wf (I9 yo) := by rw [hI9]; exact wf_other (by omega) hw8_yo
  have hq9_yo : I9 yo = I yo := by rw [hI9]; exact (gU_ne _ _ _ _ _ (by omega)).trans hq8_yo
  obtain ⟨I10, hI10⟩ : ∃ z, z = gU I9 y 1 i 10 (I9 yo 1 io 10) := ⟨_, rfl⟩
  have hw10_y : wf (I10 y) := by rw [hI10]; exact wf_gU rfl hw9_y
  have hw10_yo : wf (I10 yo) := by rw [hI10]; exact wf_other (by omega) hw9_yo
  have hq10_yo : I10 yo = I yo := by rw [hI10]; exact (gU_ne _ _ _ _ _ (by omega)).trans hq9_yo
  obtain ⟨I11, hI11⟩ : ∃ z, z = gU I10 y 1 i 11 (I10 yo 1 io 11) := ⟨_, rfl⟩
  have hw11_y : wf (I11 y) := by rw [hI11]; exact wf_gU rfl hw10_y
  have hw11_yo : wf (I11 yo) := by rw [hI11]; exact wf_other (by omega) hw10_yo
  have hq11_yo : I11 yo = I yo := by rw [hI11]; exact (gU_ne _ _ _ _ _ (by omega)).trans hq10_yo
  have eS : f_X1_copyFrom I y i yo io = I11 := by subst hI1 hI2 hI3 hI4 hI5 hI6 hI7 hI8 hI9 hI10 hI11; simp only [f_X1_copyFrom]
  rw [eS]
  exact hw11_y
set_option maxRecDepth 100000 in
theorem ne_X1_copyFrom (I : gI) (y i : Nat) (yo io : Nat) (hy : y < 2) (hi : i < 6) (hw : wf (I y)) (hyo : yo < 2) (hio : io < 6) (hwo : wf (I yo)) (hne : yo ≠ y) (hz : I yo 1 io 7 = 0 ∨ I yo 1 io 7 = 1) {y' : Nat} (hne : y' ≠ y) : f_X1_copyFrom I y i yo io y' = I y' := by
  have hn : I y' = I y' := rfl
  obtain ⟨I1, hI1⟩ : ∃ z, z = gU I y 1 i 1 (I yo 1 io 1) := ⟨_, rfl⟩
  have hw1_y : wf (I1 y) := by rw [hI1]; exact wf_gU rfl hw
  have hw1_yo : wf (I1 yo) := by rw [hI1]; exact wf_other (by omega) hwo
  have hq1_yo : I1 yo = I yo := by rw [hI1]; exact gU_ne _ _ _ _ _ (by omega)
  have hn1 : I1 y' = I y' := by rw [hI1]; exact (gU_ne _ _ _ _ _ hne).trans hn
  obtain ⟨I2, hI2⟩ : ∃ z, z = gU I1 y 1 i 2 (I1 yo 1 io 2) := ⟨_, rfl⟩
  have hw2_y : wf (I2 y) := by rw [hI2]; exact wf_gU rfl hw1_y
  have hw2_yo : wf (I2 yo) := by rw [hI2]; exact wf_other (by omega) hw1_yo
  have hq2_yo : I2 yo = I yo := by rw [hI2]; exact (gU_ne _ _ _ _ _ (by omega)).trans hq1_yo
  have hn2 : I2 y' = I y' := by rw [hI2]; exact (gU_ne _ _ _ _ _ hne).trans hn1
  obtain ⟨I3, hI3⟩ : ∃ z, z = f_X0_copyFrom I2 y ((I2 y 1 i 3).toNatClampNeg) yo ((I2 yo 1 io 3).toNatClampNeg) := ⟨_, rfl⟩
  have hw3_y : wf (I3 y) := by rw [hI3]; exact wf_X0_copyFrom I2 y ((I2 y 1 i 3).toNatClampNeg) yo ((I2 yo 1 io 3).toNatClampNeg) hy (hw2_y.cart hi) hw2_y hyo (hw2_yo.cart hio) hw2_yo (by omega)
  have hw3_yo : wf (I3 yo) := by rw [hI3]; exact wf_ne ((ne_X0_copyFrom I2 y ((I2 y 1 i 3).toNatClampNeg) yo ((I2 yo 1 io 3).toNatClampNeg) hy (hw2_y.cart hi) hw2_y hyo (hw2_yo.cart hio) hw2_yo (by omega) (y' := yo) (by omega))) hw2_yo
  have hq3_yo : I3 yo = I yo := by rw [hI3]; exact (ne_X0_copyFrom I2 y ((I2 y 1 i 3).toNatClampNeg) yo ((I2 yo 1 io 3).toNatClampNeg) hy (hw2_y.cart hi) hw2_y hyo (hw2_yo.cart hio) hw2_yo (by omega) (y' := yo) (by omega)).trans hq2_yo
  have hn3 : I3 y' = I y' := by rw [hI3]; exact (ne_X0_copyFrom I2 y ((I2 y 1 i 3).toNatClampNeg) yo ((I2 yo 1 io 3).toNatClampNeg) hy (hw2_y.cart hi) hw2_y hyo (hw2_yo.cart hio) hw2_yo (by omega) (y' := y') hne).trans hn2
  obtain ⟨I4, hI4⟩ : ∃ z, z = gU I3 y 1 i 4 (I3 yo 1 io 4) := ⟨_, rfl⟩
  have hw4_y : wf (I4 y) := by rw [hI4]; exact wf_gU rfl hw3_y
  have hw4_yo : wf (I4 yo) := by rw [hI4]; exact wf_other (by omega) hw3_yo
  have hq4_yo : I4 yo = I yo := by rw [hI4]; exact (gU_ne _ _ _ _ _ (by omega)).trans hq3_yo
  have hn4 : I4 y' = I y' := by rw [hI4]; exact (gU_ne _ _ _ _ _ hne).trans hn3
  obtain ⟨I5, hI5⟩ : ∃ z, z = gU I4 y 1 i 5 (I4 yo 1 io 5) := ⟨_, rfl⟩
  have hw5_y : wf (I5 y) := by rw [hI5]; exact wf_gU rfl hw4_y
  have hw5_yo : wf (I5 yo) := by rw [hI5]; exact wf_other (by omega) hw4_yo
  have hq5_yo : I5 yo = I yo := by rw [hI5]; exact (gU_ne _ _ _ _ _ (by omega)).trans hq4_yo
  have hn5 : I5 y' = I y' := by rw [hI5]; exact (gU_ne _ _ _ _ _ hne).trans hn4
  obtain ⟨I6, hI6⟩ : ∃ z, z = gU I5 y 1 i 6 (I5 yo 1 io 6) := ⟨_, rfl⟩
  have hw6_y : wf (I6 y) := by rw [hI6]; exact wf_gU rfl hw5_y
  have hw6_yo : wf (I6 yo) := by rw [hI6]; exact wf_other (by omega) hw5_yo
  have hq6_yo : I6 yo = I yo := by rw [hI6]; exact (gU_ne _ _ _ _ _ (by omega)).trans hq5_yo
  have hn6 : I6 y' = I y' := by rw [hI6]; exact (gU_ne _ _ _ _ _ hne).trans hn5
  obtain ⟨I7, hI7⟩ : ∃ z, z = gU I6 y 1 i 7 (I6 yo 1 io 7) := ⟨_, rfl⟩
  have hw7_y : wf (I7 y) := by rw [hI7]; exact wf_gU rfl hw6_y
  have hw7_yo : wf (I7 yo) := by rw [hI7]; exact wf_other (by omega) hw6_yo
  have hq7_yo : I7 yo = I yo := by rw [hI7]; exact (gU_ne _ _ _ _ _ (by omega)).trans hq6_yo
  have hn7 : I7 y' = I y' := by rw [hI7]; exact (gU_ne _ _ _ _ _ hne).trans hn6
  obtain ⟨I8, hI8⟩ : ∃ z, z = gU I7 y 1 i 8 (I7 yo 1 io 8) := ⟨_, rfl⟩
  have hw8_y : wf (I8 y) := by rw [hI8]; exact wf_gU rfl hw7_y
  have hw8_yo : wf (I8 yo) := by rw [hI8]; exact wf_other (by omega) hw7_yo
  have hq8_yo : I8 yo = I yo := by rw [hI8]; exact (gU_ne _ _ _ _ _ (by omega)).trans hq7_yo
  have hn8 : I8 y' = I y' := by rw [hI8]; exact (gU_ne _ _ _ _ _ hne).trans hn7
  obtain ⟨I9, hI9⟩ : ∃ z, z = gU I8 y 1 i 9 (I8 yo 1 io 9) := ⟨_, rfl⟩
  have hw9_y : wf (I9 y) := by rw [hI9]; exact wf_gU rfl hw8_y
  have hw9_yo : wf (I9 yo) := by rw [hI9]; exact wf_other (by omega) hw8_yo
  have hq9_yo : I9 yo = I yo := by rw [hI9]; exact (gU_ne _ _ _ _ _ (by omega)).trans hq8_yo
  have hn9 : I9 y' = I y' := by rw [hI9]; exact (gU_ne _ _ _ _ _ hne).trans hn8
  obtain ⟨I10, hI10⟩ : ∃ z, z = gU I9 y 1 i 10 (I9 yo 1 io 10) := ⟨_, rfl⟩
  have hw10_y : wf (I10 y) := by rw [hI10]; exact wf_gU rfl hw9_y
  have hw10_yo : wf (I10 yo) := by rw [hI10]; exact wf_other (by omega) hw9_yo
  have hq10_yo : I10 yo = I yo := by rw [hI10]; exact (gU_ne _ _ _ _ _ (by omega)).trans hq9_yo
  have hn10 : I10 y' = I y' := by rw [hI10]; exact (gU_ne _ _ _ _ _ hne).trans hn9
  obtain ⟨I11, hI11⟩ : ∃ z, z = gU I10 y 1 i 11 (I10 yo 1 io 11) := ⟨_, rfl⟩
  have hw11_y : wf (I11 y) := by rw [hI11]; exact wf_gU rfl hw10_y
  have hw11_yo : wf (I11 yo) := by rw [hI11]; exact wf_other (by omega) hw10_yo
  have hq11_yo : I11 yo = I yo := by rw [hI11]; exact (gU_ne _ _ _ _ _ (by omega)).trans hq10_yo
  have hn11 : I11 y' = I y' := by rw [hI11]; exact (gU_ne _ _ _ _ _ hne).trans hn10
  have eS : f_X1_copyFrom I y i yo io = I11 := by subst hI1 hI2 hI3 hI4 hI5 hI6 hI7 hI8 hI9 hI10 hI11; simp only [f_X1_copyFrom]
  rw [eS]
  exact hn11
end
section
/-! PRINTED by wip/gen (cls.py): X2 -/
def f_X2_tell (I : gI) (y i : Nat) (x : Int32) : Int32 :=
  if x = 0 then
    (I y 4 i 0)
  else
    if x = 1 then
      (I y 4 i 1)
    else
      if x = 2 then
        (I y 4 i 4)
      else
        if x = 3 then
          (I y 4 i 5)
        else
          if x = 4 then
            (I y 4 i 2)
          else
            if x = 5 then
              (I y 4 i 3)
            else
              (I y 4 i 6)
set_option maxHeartbeats 4000000 in
set_option maxRecDepth 100000 in
theorem m_X2_tell (l : Launch) (E : gE) (J : Int64) (I : gI) (y i : Nat) (x : Int32) (hy : y < 2) (hi : i < 10) (hw : wf (I y)) : gMi l E J yX2_tell cX2_tell 2 (some .int) 0 0 [.ref (gA E y 4 i), .int x] I (f_X2_tell I y i x) I := by
  refine g_entry (lv := [(0, .ref (gA E y 4 i)), (1, .int x)]) (by decide) (Nat.le_of_ble_eq_true rfl) rfl ?_
  intro p e s m below meth c0 ls K hG hS hml hr hlocks hl
  have K : kx E p m c0 cX2_tell "HayThieves$Load" _ s := K
  have hx := K.1
  have hb := K.2.1
  have hts := K.2.2.1
  have hown := K.2.2.2.1
  have hSt := K.2.2.2.2
  refine lv_iload_n hx hb dX2_tell_0 rfl (lv_at hl 1 rfl) ?_
  by_cases c1_0 : x = 0
  · refine lv_tableIn (off := 39) (tgt := 40) hx hb dX2_tell_1 (by rw [c1_0]; decide) (by rw [c1_0]; decide) (by rw [c1_0]; decide) (by decide) ?_
    refine lv_aload_n hx hb dX2_tell_40 rfl (lv_at hl 0 rfl) ?_
    refine gf_X2_9 K hG (gv4 hy hi) dX2_tell_41 ?_
    exact g_iret K hG hS hr hlocks (by simp only [f_X2_tell, if_pos c1_0]) dX2_tell_44
  by_cases c1_1 : x = 1
  · refine lv_tableIn (off := 44) (tgt := 45) hx hb dX2_tell_1 (by rw [c1_1]; decide) (by rw [c1_1]; decide) (by rw [c1_1]; decide) (by decide) ?_
    refine lv_aload_n hx hb dX2_tell_45 rfl (lv_at hl 0 rfl) ?_
    refine gf_X2_15 K hG (gv4 hy hi) dX2_tell_46 ?_
    exact g_iret K hG hS hr hlocks (by simp only [f_X2_tell, if_neg c1_0, if_pos c1_1]) dX2_tell_49
  by_cases c1_2 : x = 2
  · refine lv_tableIn (off := 49) (tgt := 50) hx hb dX2_tell_1 (by rw [c1_2]; decide) (by rw [c1_2]; decide) (by rw [c1_2]; decide) (by decide) ?_
    refine lv_aload_n hx hb dX2_tell_50 rfl (lv_at hl 0 rfl) ?_
    refine gf_X2_24 K hG (gv4 hy hi) dX2_tell_51 ?_
    exact g_iret K hG hS hr hlocks (by simp only [f_X2_tell, if_neg c1_0, if_neg c1_1, if_pos c1_2]) dX2_tell_54
  by_cases c1_3 : x = 3
  · refine lv_tableIn (off := 54) (tgt := 55) hx hb dX2_tell_1 (by rw [c1_3]; decide) (by rw [c1_3]; decide) (by rw [c1_3]; decide) (by decide) ?_
    refine lv_aload_n hx hb dX2_tell_55 rfl (lv_at hl 0 rfl) ?_
    refine gf_X2_27 K hG (gv4 hy hi) dX2_tell_56 ?_
    exact g_iret K hG hS hr hlocks (by simp only [f_X2_tell, if_neg c1_0, if_neg c1_1, if_neg c1_2, if_pos c1_3]) dX2_tell_59
  by_cases c1_4 : x = 4
  · refine lv_tableIn (off := 59) (tgt := 60) hx hb dX2_tell_1 (by rw [c1_4]; decide) (by rw [c1_4]; decide) (by rw [c1_4]; decide) (by decide) ?_
    refine lv_aload_n hx hb dX2_tell_60 rfl (lv_at hl 0 rfl) ?_
    refine gf_X2_18 K hG (gv4 hy hi) dX2_tell_61 ?_
    exact g_iret K hG hS hr hlocks (by simp only [f_X2_tell, if_neg c1_0, if_neg c1_1, if_neg c1_2, if_neg c1_3, if_pos c1_4]) dX2_tell_64
  by_cases c1_5 : x = 5
  · refine lv_tableIn (off := 64) (tgt := 65) hx hb dX2_tell_1 (by rw [c1_5]; decide) (by rw [c1_5]; decide) (by rw [c1_5]; decide) (by decide) ?_
    refine lv_aload_n hx hb dX2_tell_65 rfl (lv_at hl 0 rfl) ?_
    refine gf_X2_21 K hG (gv4 hy hi) dX2_tell_66 ?_
    exact g_iret K hG hS hr hlocks (by simp only [f_X2_tell, if_neg c1_0, if_neg c1_1, if_neg c1_2, if_neg c1_3, if_neg c1_4, if_pos c1_5]) dX2_tell_69
  refine lv_tableOut (tgt := 70) hx hb dX2_tell_1 (gsw_0_5 c1_0 c1_1 c1_2 c1_3 c1_4 c1_5) (by decide) ?_
  refine lv_aload_n hx hb dX2_tell_70 rfl (lv_at hl 0 rfl) ?_
  refine gf_X2_30 K hG (gv4 hy hi) dX2_tell_71 ?_
  exact g_iret K hG hS hr hlocks (by simp only [f_X2_tell, if_neg c1_0, if_neg c1_1, if_neg c1_2, if_neg c1_3, if_neg c1_4, if_neg c1_5]) dX2_tell_74
def f_X2_copyFrom (I : gI) (y i : Nat) (yo io : Nat) : gI :=
  let I1 := gU I y 4 i 0 (I yo 4 io 0)
  let I2 := gU I1 y 4 i 1 (I1 yo 4 io 1)
  let I3 := gU I2 y 4 i 2 (I2 yo 4 io 2)
  let I4 := gU I3 y 4 i 3 (I3 yo 4 io 3)
  let I5 := gU I4 y 4 i 4 (I4 yo 4 io 4)
  let I6 := gU I5 y 4 i 5 (I5 yo 4 io 5)
  let I7 := gU I6 y 4 i 6 (I6 yo 4 io 6)
  I7
set_option maxHeartbeats 4000000 in
set_option maxRecDepth 100000 in
theorem m_X2_copyFrom (l : Launch) (E : gE) (J : Int64) (I : gI) (y i : Nat) (yo io : Nat) (hy : y < 2) (hi : i < 10) (hw : wf (I y)) (hyo : yo < 2) (hio : io < 10) (hwo : wf (I yo)) (hne : yo ≠ y) : gMv l E J yX2_copyFrom cX2_copyFrom 2 none 0 0 [.ref (gA E y 4 i), .ref (gA E yo 4 io)] I (f_X2_copyFrom I y i yo io) := by
  refine g_entry (lv := [(0, .ref (gA E y 4 i)), (1, .ref (gA E yo 4 io))]) (by decide) (Nat.le_of_ble_eq_true rfl) rfl ?_
  intro p e s m below meth c0 ls K hG hS hml hr hlocks hl
  have K : kx E p m c0 cX2_copyFrom "HayThieves$Load" _ s := K
  have hx := K.1
  have hb := K.2.1
  have hts := K.2.2.1
  have hown := K.2.2.2.1
  have hSt := K.2.2.2.2
  refine lv_aload_n hx hb dX2_copyFrom_0 rfl (lv_at hl 0 rfl) ?_
  refine lv_aload_n hx hb dX2_copyFrom_1 rfl (lv_at hl 1 rfl) ?_
  refine gf_X2_9 K hG (gv4 hyo hio) dX2_copyFrom_2 ?_
  refine pf_X2_9 K hG hS (gv4 hy hi) dX2_copyFrom_5 (fun I1 hI1 H locs hG hS => ?_)
  have hw1_y : wf (I1 y) := by rw [hI1]; exact wf_gU rfl hw
  have hw1_yo : wf (I1 yo) := by rw [hI1]; exact wf_other (by omega) hwo
  have hq1_yo : I1 yo = I yo := by rw [hI1]; exact gU_ne _ _ _ _ _ (by omega)
  refine lv_aload_n hx hb dX2_copyFrom_8 rfl (lv_at hl 0 rfl) ?_
  refine lv_aload_n hx hb dX2_copyFrom_9 rfl (lv_at hl 1 rfl) ?_
  refine gf_X2_15 K hG (gv4 hyo hio) dX2_copyFrom_10 ?_
  refine pf_X2_15 K hG hS (gv4 hy hi) dX2_copyFrom_13 (fun I2 hI2 H locs hG hS => ?_)
  have hw2_y : wf (I2 y) := by rw [hI2]; exact wf_gU rfl hw1_y
  have hw2_yo : wf (I2 yo) := by rw [hI2]; exact wf_other (by omega) hw1_yo
  have hq2_yo : I2 yo = I yo := by rw [hI2]; exact (gU_ne _ _ _ _ _ (by omega)).trans hq1_yo
  refine lv_aload_n hx hb dX2_copyFrom_16 rfl (lv_at hl 0 rfl) ?_
  refine lv_aload_n hx hb dX2_copyFrom_17 rfl (lv_at hl 1 rfl) ?_
  refine gf_X2_18 K hG (gv4 hyo hio) dX2_copyFrom_18 ?_
  refine pf_X2_18 K hG hS (gv4 hy hi) dX2_copyFrom_21 (fun I3 hI3 H locs hG hS => ?_)
  have hw3_y : wf (I3 y) := by rw [hI3]; exact wf_gU rfl hw2_y
  have hw3_yo : wf (I3 yo) := by rw [hI3]; exact wf_other (by omega) hw2_yo
  have hq3_yo : I3 yo = I yo := by rw [hI3]; exact (gU_ne _ _ _ _ _ (by omega)).trans hq2_yo
  refine lv_aload_n hx hb dX2_copyFrom_24 rfl (lv_at hl 0 rfl) ?_
  refine lv_aload_n hx hb dX2_copyFrom_25 rfl (lv_at hl 1 rfl) ?_
  refine gf_X2_21 K hG (gv4 hyo hio) dX2_copyFrom_26 ?_
  refine pf_X2_21 K hG hS (gv4 hy hi) dX2_copyFrom_29 (fun I4 hI4 H locs hG hS => ?_)
  have hw4_y : wf (I4 y) := by rw [hI4]; exact wf_gU rfl hw3_y
  have hw4_yo : wf (I4 yo) := by rw [hI4]; exact wf_other (by omega) hw3_yo
  have hq4_yo : I4 yo = I yo := by rw [hI4]; exact (gU_ne _ _ _ _ _ (by omega)).trans hq3_yo
  refine lv_aload_n hx hb dX2_copyFrom_32 rfl (lv_at hl 0 rfl) ?_
  refine lv_aload_n hx hb dX2_copyFrom_33 rfl (lv_at hl 1 rfl) ?_
  refine gf_X2_24 K hG (gv4 hyo hio) dX2_copyFrom_34 ?_
  refine pf_X2_24 K hG hS (gv4 hy hi) dX2_copyFrom_37 (fun I5 hI5 H locs hG hS => ?_)
  have hw5_y : wf (I5 y) := by rw [hI5]; exact wf_gU rfl hw4_y
  have hw5_yo : wf (I5 yo) := by rw [hI5]; exact wf_other (by omega) hw4_yo
  have hq5_yo : I5 yo = I yo := by rw [hI5]; exact (gU_ne _ _ _ _ _ (by omega)).trans hq4_yo
  refine lv_aload_n hx hb dX2_copyFrom_40 rfl (lv_at hl 0 rfl) ?_
  refine lv_aload_n hx hb dX2_copyFrom_41 rfl (lv_at hl 1 rfl) ?_
  refine gf_X2_27 K hG (gv4 hyo hio) dX2_copyFrom_42 ?_
  refine pf_X2_27 K hG hS (gv4 hy hi) dX2_copyFrom_45 (fun I6 hI6 H locs hG hS => ?_)
  have hw6_y : wf (I6 y) := by rw [hI6]; exact wf_gU rfl hw5_y
  have hw6_yo : wf (I6 yo) := by rw [hI6]; exact wf_other (by omega) hw5_yo
  have hq6_yo : I6 yo = I yo := by rw [hI6]; exact (gU_ne _ _ _ _ _ (by omega)).trans hq5_yo
  refine lv_aload_n hx hb dX2_copyFrom_48 rfl (lv_at hl 0 rfl) ?_
  refine lv_aload_n hx hb dX2_copyFrom_49 rfl (lv_at hl 1 rfl) ?_
  refine gf_X2_30 K hG (gv4 hyo hio) dX2_copyFrom_50 ?_
  refine pf_X2_30 K hG hS (gv4 hy hi) dX2_copyFrom_53 (fun I7 hI7 H locs hG hS => ?_)
  have hw7_y : wf (I7 y) := by rw [hI7]; exact wf_gU rfl hw6_y
  have hw7_yo : wf (I7 yo) := by rw [hI7]; exact wf_other (by omega) hw6_yo
  have hq7_yo : I7 yo = I yo := by rw [hI7]; exact (gU_ne _ _ _ _ _ (by omega)).trans hq6_yo
  have eS : I7 = (f_X2_copyFrom I y i yo io) := (by subst hI1 hI2 hI3 hI4 hI5 hI6 hI7; simp only [f_X2_copyFrom])
  rw [eS] at hG
  exact g_vret K hG hS hr hlocks dX2_copyFrom_56
set_option maxRecDepth 100000 in
theorem wf_X2_copyFrom (I : gI) (y i : Nat) (yo io : Nat) (hy : y < 2) (hi : i < 10) (hw : wf (I y)) (hyo : yo < 2) (hio : io < 10) (hwo : wf (I yo)) (hne : yo ≠ y) : wf (f_X2_copyFrom I y i yo io y) := by
  obtain ⟨I1, hI1⟩ : ∃ z, z = gU I y 4 i 0 (I yo 4 io 0) := ⟨_, rfl⟩
  have hw1_y : wf (I1 y) := by rw [hI1]; exact wf_gU rfl hw
  have hw1_yo : wf (I1 yo) := by rw [hI1]; exact wf_other (by omega) hwo
  have hq1_yo : I1 yo = I yo := by rw [hI1]; exact gU_ne _ _ _ _ _ (by omega)
  obtain ⟨I2, hI2⟩ : ∃ z, z = gU I1 y 4 i 1 (I1 yo 4 io 1) := ⟨_, rfl⟩
  have hw2_y : wf (I2 y) := by rw [hI2]; exact wf_gU rfl hw1_y
  have hw2_yo : wf (I2 yo) := by rw [hI2]; exact wf_other (by omega) hw1_yo
  have hq2_yo : I2 yo = I yo := by rw [hI2]; exact (gU_ne _ _ _ _ _ (by omega)).trans hq1_yo
  obtain ⟨I3, hI3⟩ : ∃ z, z = gU I2 y 4 i 2 (I2 yo 4 io 2) := ⟨_, rfl⟩
  have hw3_y : wf (I3 y) := by rw [hI3]; exact wf_gU rfl hw2_y
  have hw3_yo : wf (I3 yo) := by rw [hI3]; exact wf_other (by omega) hw2_yo
  have hq3_yo : I3 yo = I yo := by rw [hI3]; exact (gU_ne _ _ _ _ _ (by omega)).trans hq2_yo
  obtain ⟨I4, hI4⟩ : ∃ z, z = gU I3 y 4 i 3 (I3 yo 4 io 3) := ⟨_, rfl⟩
  have hw4_y : wf (I4 y) := by rw [hI4]; exact wf_gU rfl hw3_y
  have hw4_yo : wf (I4 yo) := by rw [hI4]; exact wf_other (by omega) hw3_yo
  have hq4_yo : I4 yo = I yo := by rw [hI4]; exact (gU_ne _ _ _ _ _ (by omega)).trans hq3_yo
  obtain ⟨I5, hI5⟩ : ∃ z, z = gU I4 y 4 i 4 (I4 yo 4 io 4) := ⟨_, rfl⟩
  have hw5_y : wf (I5 y) := by rw [hI5]; exact wf_gU rfl hw4_y
  have hw5_yo : wf (I5 yo) := by rw [hI5]; exact wf_other (by omega) hw4_yo
  have hq5_yo : I5 yo = I yo := by rw [hI5]; exact (gU_ne _ _ _ _ _ (by omega)).trans hq4_yo
  obtain ⟨I6, hI6⟩ : ∃ z, z = gU I5 y 4 i 5 (I5 yo 4 io 5) := ⟨_, rfl⟩
  have hw6_y : wf (I6 y) := by rw [hI6]; exact wf_gU rfl hw5_y
  have hw6_yo : wf (I6 yo) := by rw [hI6]; exact wf_other (by omega) hw5_yo
  have hq6_yo : I6 yo = I yo := by rw [hI6]; exact (gU_ne _ _ _ _ _ (by omega)).trans hq5_yo
  obtain ⟨I7, hI7⟩ : ∃ z, z = gU I6 y 4 i 6 (I6 yo 4 io 6) := ⟨_, rfl⟩
  have hw7_y : wf (I7 y) := by rw [hI7]; exact wf_gU rfl hw6_y
  have hw7_yo : wf (I7 yo) := by rw [hI7]; exact wf_other (by omega) hw6_yo
  have hq7_yo : I7 yo = I yo := by rw [hI7]; exact (gU_ne _ _ _ _ _ (by omega)).trans hq6_yo
  have eS : f_X2_copyFrom I y i yo io = I7 := by subst hI1 hI2 hI3 hI4 hI5 hI6 hI7; simp only [f_X2_copyFrom]
  rw [eS]
  exact hw7_y
set_option maxRecDepth 100000 in
theorem ne_X2_copyFrom (I : gI) (y i : Nat) (yo io : Nat) (hy : y < 2) (hi : i < 10) (hw : wf (I y)) (hyo : yo < 2) (hio : io < 10) (hwo : wf (I yo)) (hne : yo ≠ y) {y' : Nat} (hne : y' ≠ y) : f_X2_copyFrom I y i yo io y' = I y' := by
  have hn : I y' = I y' := rfl
  obtain ⟨I1, hI1⟩ : ∃ z, z = gU I y 4 i 0 (I yo 4 io 0) := ⟨_, rfl⟩
  have hw1_y : wf (I1 y) := by rw [hI1]; exact wf_gU rfl hw
  have hw1_yo : wf (I1 yo) := by rw [hI1]; exact wf_other (by omega) hwo
  have hq1_yo : I1 yo = I yo := by rw [hI1]; exact gU_ne _ _ _ _ _ (by omega)
  have hn1 : I1 y' = I y' := by rw [hI1]; exact (gU_ne _ _ _ _ _ hne).trans hn
  obtain ⟨I2, hI2⟩ : ∃ z, z = gU I1 y 4 i 1 (I1 yo 4 io 1) := ⟨_, rfl⟩
  have hw2_y : wf (I2 y) := by rw [hI2]; exact wf_gU rfl hw1_y
  have hw2_yo : wf (I2 yo) := by rw [hI2]; exact wf_other (by omega) hw1_yo
  have hq2_yo : I2 yo = I yo := by rw [hI2]; exact (gU_ne _ _ _ _ _ (by omega)).trans hq1_yo
  have hn2 : I2 y' = I y' := by rw [hI2]; exact (gU_ne _ _ _ _ _ hne).trans hn1
  obtain ⟨I3, hI3⟩ : ∃ z, z = gU I2 y 4 i 2 (I2 yo 4 io 2) := ⟨_, rfl⟩
  have hw3_y : wf (I3 y) := by rw [hI3]; exact wf_gU rfl hw2_y
  have hw3_yo : wf (I3 yo) := by rw [hI3]; exact wf_other (by omega) hw2_yo
  have hq3_yo : I3 yo = I yo := by rw [hI3]; exact (gU_ne _ _ _ _ _ (by omega)).trans hq2_yo
  have hn3 : I3 y' = I y' := by rw [hI3]; exact (gU_ne _ _ _ _ _ hne).trans hn2
  obtain ⟨I4, hI4⟩ : ∃ z, z = gU I3 y 4 i 3 (I3 yo 4 io 3) := ⟨_, rfl⟩
  have hw4_y : wf (I4 y) := by rw [hI4]; exact wf_gU rfl hw3_y
  have hw4_yo : wf (I4 yo) := by rw [hI4]; exact wf_other (by omega) hw3_yo
  have hq4_yo : I4 yo = I yo := by rw [hI4]; exact (gU_ne _ _ _ _ _ (by omega)).trans hq3_yo
  have hn4 : I4 y' = I y' := by rw [hI4]; exact (gU_ne _ _ _ _ _ hne).trans hn3
  obtain ⟨I5, hI5⟩ : ∃ z, z = gU I4 y 4 i 4 (I4 yo 4 io 4) := ⟨_, rfl⟩
  have hw5_y : wf (I5 y) := by rw [hI5]; exact wf_gU rfl hw4_y
  have hw5_yo : wf (I5 yo) := by rw [hI5]; exact wf_other (by omega) hw4_yo
  have hq5_yo : I5 yo = I yo := by rw [hI5]; exact (gU_ne _ _ _ _ _ (by omega)).trans hq4_yo
  have hn5 : I5 y' = I y' := by rw [hI5]; exact (gU_ne _ _ _ _ _ hne).trans hn4
  obtain ⟨I6, hI6⟩ : ∃ z, z = gU I5 y 4 i 5 (I5 yo 4 io 5) := ⟨_, rfl⟩
  have hw6_y : wf (I6 y) := by rw [hI6]; exact wf_gU rfl hw5_y
  have hw6_yo : wf (I6 yo) := by rw [hI6]; exact wf_other (by omega) hw5_yo
  have hq6_yo : I6 yo = I yo := by rw [hI6]; exact (gU_ne _ _ _ _ _ (by omega)).trans hq5_yo
  have hn6 : I6 y' = I y' := by rw [hI6]; exact (gU_ne _ _ _ _ _ hne).trans hn5
  obtain ⟨I7, hI7⟩ : ∃ z, z = gU I6 y 4 i 6 (I6 yo 4 io 6) := ⟨_, rfl⟩
  have hw7_y : wf (I7 y) := by rw [hI7]; exact wf_gU rfl hw6_y
  have hw7_yo : wf (I7 yo) := by rw [hI7]; exact wf_other (by omega) hw6_yo
  have hq7_yo : I7 yo = I yo := by rw [hI7]; exact (gU_ne _ _ _ _ _ (by omega)).trans hq6_yo
  have hn7 : I7 y' = I y' := by rw [hI7]; exact (gU_ne _ _ _ _ _ hne).trans hn6
  have eS : f_X2_copyFrom I y i yo io = I7 := by subst hI1 hI2 hI3 hI4 hI5 hI6 hI7; simp only [f_X2_copyFrom]
  rw [eS]
  exact hn7
end
