/-! THE LAW'S OWN SIM: its cells by keys. D t i: addresses; I 5: contents and lengths.
D 0 0 the Sim; D 1 t its outer row of field t (2 lads, 3 carts, 4 loads, 5 heaps); D t i the i-th row of field t; D 9 i loose rows of ints.
I 5: 0 0 k the Sim's int fields; 1 t 0 how many rows of t (9: of loose ones); 6 i 0 heaps in the cart i; 7 i 0 the length of the loose row i; t i j contents. -/
abbrev sD : Type := Nat → Nat → Nat
def u2 (D : sD) (t i x : Nat) : sD := fun t' i' => if t' = t ∧ i' = i then x else D t' i'
def cnt (V : gY) (t : Nat) : Nat := (V 1 t 0).toNatClampNeg
def rln (V : gY) (t i : Nat) : Nat := if t = 2 then 8 else if t = 3 then (V 6 i 0).toNatClampNeg else if t = 9 then (V 7 i 0).toNatClampNeg else 6
def swv (V : gY) (t i : Nat) : Prop := (t = 0 ∧ i = 0) ∨ (t = 1 ∧ 2 ≤ i ∧ i ≤ 5) ∨ ((t = 2 ∨ t = 3 ∨ t = 4 ∨ t = 5 ∨ t = 9) ∧ i < cnt V t)
def sO (D : sD) (V : gY) : Nat → Value := fun k => if 2 ≤ k ∧ k ≤ 5 then .ref (D 1 k) else .int (V 0 0 k)
def swc (E : gE) (D : sD) (V : gY) (t i : Nat) (H : Heap) : Prop :=
  if t = 0 then t_OB (D 0 0) (E.1.1 5) 9 (E.1.2 5) H (sO D V) else if t = 1 then H[D 1 i]? = some (arrV (E.2.1 4) (cnt V i) (fun j => .ref (D i j))) else H[D t i]? = some (arrV (E.2.1 0) (rln V t i) (fun j => .int (V t i j)))
def swb (V : gY) : Prop := (∀ t, isN (V 1 t 0) 330) ∧ ∀ i, isN (V 6 i 0) 330 ∧ isN (V 7 i 0) 330
def SW (E : gE) (F : Nat → Prop) (D : sD) (V : gY) (H : Heap) : Prop :=
  (∀ t i, swv V t i → swc E D V t i H) ∧ (∀ t i t' i', swv V t i → swv V t' i' → D t i = D t' i' → t = t' ∧ i = i') ∧ (∀ t i, swv V t i → F (D t i)) ∧ (∀ q, H.size ≤ q → F q) ∧ swb V
def LW (E : gE) (F : Nat → Prop) (J : Int64) (D : sD) (I : gI) (H : Heap) : Prop := GW E J I H ∧ SW E F D (I 5) H ∧ ∀ q, F q → ¬ gF E q
theorem swv0 (V : gY) : swv V 0 0 := Or.inl ⟨rfl, rfl⟩
theorem swv1 (V : gY) {i : Nat} (h : 2 ≤ i ∧ i ≤ 5) : swv V 1 i := Or.inr (Or.inl ⟨rfl, h⟩)
theorem swvr {V : gY} {t i : Nat} (ht : t = 2 ∨ t = 3 ∨ t = 4 ∨ t = 5 ∨ t = 9) (h : i < cnt V t) : swv V t i := Or.inr (Or.inr ⟨ht, h⟩)
theorem SW.c0 {E : gE} {F : Nat → Prop} {D : sD} {V : gY} {H : Heap} (h : SW E F D V H) : t_OB (D 0 0) (E.1.1 5) 9 (E.1.2 5) H (sO D V) := by
  have := h.1 0 0 (swv0 V)
  unfold swc at this
  rwa [if_pos rfl] at this
theorem SW.c1 {E : gE} {F : Nat → Prop} {D : sD} {V : gY} {H : Heap} (h : SW E F D V H) {i : Nat} (hi : 2 ≤ i ∧ i ≤ 5) : H[D 1 i]? = some (arrV (E.2.1 4) (cnt V i) (fun j => .ref (D i j))) := by
  have := h.1 1 i (swv1 V hi)
  unfold swc at this
  rwa [if_neg (by decide), if_pos rfl] at this
theorem SW.cr {E : gE} {F : Nat → Prop} {D : sD} {V : gY} {H : Heap} (h : SW E F D V H) {t i : Nat} (ht : t = 2 ∨ t = 3 ∨ t = 4 ∨ t = 5 ∨ t = 9) (hi : i < cnt V t) : H[D t i]? = some (arrV (E.2.1 0) (rln V t i) (fun j => .int (V t i j))) := by
  have := h.1 t i (swvr ht hi)
  unfold swc at this
  rwa [if_neg (by omega), if_neg (by omega)] at this
theorem swc_of0 {E : gE} {D : sD} {V : gY} {H : Heap} (h : t_OB (D 0 0) (E.1.1 5) 9 (E.1.2 5) H (sO D V)) (i : Nat) : swc E D V 0 i H := by
  unfold swc
  rwa [if_pos rfl]
theorem swc_of1 {E : gE} {D : sD} {V : gY} {H : Heap} {i : Nat} (h : H[D 1 i]? = some (arrV (E.2.1 4) (cnt V i) (fun j => .ref (D i j)))) : swc E D V 1 i H := by
  unfold swc
  rwa [if_neg (by decide), if_pos rfl]
theorem swc_ofr {E : gE} {D : sD} {V : gY} {H : Heap} {t i : Nat} (ht : t = 2 ∨ t = 3 ∨ t = 4 ∨ t = 5 ∨ t = 9) (h : H[D t i]? = some (arrV (E.2.1 0) (rln V t i) (fun j => .int (V t i j)))) : swc E D V t i H := by
  unfold swc
  rwa [if_neg (by omega), if_neg (by omega)]
theorem t_OB.lt9 {o : Nat} {cC : ClassId} {N : Nat} {iS : Nat → Nat} {H : Heap} {V : Nat → Value} (h : t_OB o cC N iS H V) : o < H.size := by
  obtain ⟨cell, q, -⟩ := h
  exact (Array.getElem?_eq_some_iff.mp q).1
theorem SW.lt {E : gE} {F : Nat → Prop} {D : sD} {V : gY} {H : Heap} (h : SW E F D V H) {t i : Nat} (hv : swv V t i) : D t i < H.size := by
  rcases hv with ⟨rfl, rfl⟩ | ⟨rfl, hi⟩ | ⟨ht, hi⟩
  · exact h.c0.lt9
  · exact (Array.getElem?_eq_some_iff.mp (h.c1 hi)).1
  · exact (Array.getElem?_eq_some_iff.mp (h.cr ht hi)).1
theorem swc.kept {E : gE} {D : sD} {V : gY} {t i : Nat} {H H1 : Heap} (hi : t = 0 → i = 0) (h : swc E D V t i H) (hq : H1[D t i]? = H[D t i]?) : swc E D V t i H1 := by
  unfold swc at h ⊢
  split at h
  · rename_i e
    subst e
    rw [if_pos rfl]
    rw [hi rfl] at hq
    exact h.kept hq
  · rename_i e
    rw [if_neg e]
    split at h
    · rename_i e1
      subst e1
      rw [if_pos rfl, hq]
      exact h
    · rename_i e1
      rw [if_neg e1, hq]
      exact h
theorem swv.z {V : gY} {t i : Nat} (h : swv V t i) : t = 0 → i = 0 := by
  rintro rfl
  rcases h with ⟨-, h⟩ | ⟨h, -⟩ | ⟨h, -⟩
  · exact h
  · cases h
  · omega
/-- the Sim's cells stay, and more may be there -/
theorem SW.keep {E : gE} {F : Nat → Prop} {D : sD} {V : gY} {H H1 : Heap} (h : SW E F D V H) (hz : H.size ≤ H1.size) (hq : ∀ q, q < H.size → F q → H1[q]? = H[q]?) : SW E F D V H1 :=
  ⟨fun t i hv => (h.1 t i hv).kept hv.z (hq _ (h.lt hv) (h.2.2.1 t i hv)), h.2.1, h.2.2.1, fun q hq => h.2.2.2.1 q (Nat.le_trans hz hq), h.2.2.2.2⟩
/-- the class's cells stay -/
theorem GW.keep {E : gE} {J : Int64} {I I' : gI} {H H1 : Heap} (hG : GW E J I H) (hok : gok E) (hI : ∀ y, y ≤ 2 → I' y = I y) (hq : ∀ q, gF E q → H1[q]? = H[q]?) : GW E J I' H1 := by
  intro y t i hv
  have h0 := hG y t i hv
  have hy : y ≤ 2 := by
    unfold gv at hv
    simp only [Bool.or_eq_true, Bool.and_eq_true, decide_eq_true_eq] at hv
    omega
  have e : sv E J I' y t i = sv E J I y t i := by
    funext j
    unfold sv
    have e1 : I' y = I y := hI y hy
    have e2 : grf E I' y t i j = grf E I y t i j := by
      unfold grf
      split <;> try rfl
      rw [e1]
    rw [e1, e2]
  rw [e]
  have hA := hok.2 y t i hv
  unfold gat at h0 ⊢
  cases hsh : sh t with
  | inl ci =>
    rw [hsh] at h0
    obtain ⟨r, r1, r2⟩ := h0
    exact ⟨r, r1, r2.kept (hq _ hA)⟩
  | inr kn =>
    rw [hsh] at h0
    exact (hq _ hA).trans h0
theorem gset5 (I : gI) (V : gY) {y : Nat} (h : y ≤ 2) : gset I 5 V y = I y := gset_ne I V (by omega)
/-- the Sim's contents change, its cells as told -/
theorem LW.to {E : gE} {F : Nat → Prop} {J : Int64} {D D' : sD} {I : gI} {V' : gY} {H H1 : Heap} (h : LW E F J D I H) (hok : gok E) (hq : ∀ q, ¬ F q → H1[q]? = H[q]?) (hS : SW E F D' V' H1) : LW E F J D' (gset I 5 V') H1 := by
  refine ⟨h.1.keep hok (fun y hy => gset5 I V' hy) (fun q hq' => hq q (fun hf => h.2.2 q hf hq')), ?_, h.2.2⟩
  rw [gset_at]
  exact hS
/-- one cell of the Sim's anew -/
theorem SW.upd {E : gE} {F : Nat → Prop} {D : sD} {V V' : gY} {H H1 : Heap} (h : SW E F D V H) {t i : Nat} (hv : swv V t i) (hc : swc E D V' t i H1) (hz : H1.size = H.size) (hq : ∀ q, q ≠ D t i → H1[q]? = H[q]?) (hb : swb V') (hn : ∀ t, cnt V' t = cnt V t) (hr : ∀ t i, rln V' t i = rln V t i) (hV : ∀ t' i', swv V t' i' → ¬ (t' = t ∧ i' = i) → ∀ j, V' t' i' j = V t' i' j) : SW E F D V' H1 := by
  have hv' : ∀ t i, swv V' t i ↔ swv V t i := fun t i => by unfold swv; rw [hn]
  refine ⟨fun t' i' hw => ?_, fun a b c d h1 h2 => h.2.1 a b c d ((hv' _ _).mp h1) ((hv' _ _).mp h2), fun a b h1 => h.2.2.1 a b ((hv' _ _).mp h1), fun q hh => h.2.2.2.1 q (by omega), hb⟩
  have hw := (hv' _ _).mp hw
  by_cases e : t' = t ∧ i' = i
  · obtain ⟨rfl, rfl⟩ := e
    exact hc
  · have hne : D t' i' ≠ D t i := fun z => e (h.2.1 _ _ _ _ hw hv z)
    have h1 := (h.1 t' i' hw).kept hw.z (hq _ hne)
    unfold swc at h1 ⊢
    split
    · rename_i e0
      subst e0
      rw [if_pos rfl] at h1
      refine h1.to (fun k hk => ?_)
      unfold sO
      have hi := hw.z rfl
      subst hi
      rw [hV 0 0 hw e]
    · rename_i e0
      rw [if_neg e0] at h1
      split
      · rename_i e1
        rw [if_pos e1] at h1
        rw [hn]
        exact h1
      · rename_i e1
        rw [if_neg e1] at h1
        rw [hr, h1]
        congr 2
        funext j
        rw [hV t' i' hw e]
