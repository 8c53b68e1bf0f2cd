/-! ROWS THAT CHANGE WHAT IS WHERE: a new loose row, a loose row into a field's rows, a cart anew, two carts change -/
def pLoose (V : gY) (n : Nat) (f : Nat → Int32) : gY := u3 (u3 (urow V 9 (cnt V 9) f) 7 (cnt V 9) 0 (nI n)) 1 9 0 (nI (cnt V 9 + 1))
def pDrop (V : gY) (q : Nat) : gY := u3 V 1 9 0 (nI q)
def pMore (V : gY) (t : Nat) : gY := u3 (u3 (if t = 3 then u3 (urow V t (cnt V t) (V 9 (cnt V 9 - 1))) 6 (cnt V t) 0 (V 7 (cnt V 9 - 1) 0) else urow V t (cnt V t) (V 9 (cnt V 9 - 1))) 1 t 0 (nI (cnt V t + 1))) 1 9 0 (nI (cnt V 9 - 1))
def pCart (V : gY) (k : Nat) : gY := u3 (u3 (urow V 3 k (V 9 (cnt V 9 - 1))) 6 k 0 (V 7 (cnt V 9 - 1) 0)) 1 9 0 (nI (cnt V 9 - 1))
def pSwap (V : gY) (a b : Nat) : gY := u3 (u3 (urow (urow V 3 a (V 3 b)) 3 b (V 3 a)) 6 a 0 (V 6 b 0)) 6 b 0 (V 6 a 0)
theorem u3_eq {V : gY} {t i j : Nat} {x : Int32} {t' i' j' : Nat} : u3 V t i j x t' i' j' = if t' = t ∧ i' = i ∧ j' = j then x else V t' i' j' := rfl
theorem urow_eq {V : gY} {t i : Nat} {g : Nat → Int32} {t' i' j' : Nat} : urow V t i g t' i' j' = if t' = t ∧ i' = i then g j' else V t' i' j' := rfl
theorem u2_eq {D : sD} {t i x t' i' : Nat} : u2 D t i x t' i' = if t' = t ∧ i' = i then x else D t' i' := rfl
theorem isN_of {x : Int32} {b : Nat} {k : Nat} (h : x = nI k) (hk : k ≤ b) (hb : b < 2 ^ 31) : isN x b := by rw [h]; exact isN_nI hk hb
theorem SW.loose {E : gE} {F : Nat → Prop} {D : sD} {V : gY} {H : Heap} {a n : Nat} {f : Nat → Int32} (h : SW E F D V H) (ha : H[a]? = some (arrV (E.2.1 0) n (fun j => .int (f j)))) (hfr : ∀ t i, swv V t i → D t i ≠ a) (hFa : F a) (hn : n ≤ 330) (hc : cnt V 9 < 330) : SW E F (u2 D 9 (cnt V 9) a) (pLoose V n f) H := by
  have hb := h.2.2.2.2
  have c9 : cnt (pLoose V n f) 9 = cnt V 9 + 1 := by
    show (u3 _ 1 9 0 _ 1 9 0).toNatClampNeg = _
    rw [u3_at, nI_clamp (by omega)]
  have cn : ∀ t, t ≠ 9 → cnt (pLoose V n f) t = cnt V t := fun t ht => by
    unfold cnt pLoose
    simp [u3_eq, urow_eq, ht]
  have r9 : rln (pLoose V n f) 9 (cnt V 9) = n := by
    unfold rln pLoose
    simp [u3_eq]
    exact nI_clamp (by omega)
  have rn : ∀ t i, ¬ (t = 9 ∧ i = cnt V 9) → rln (pLoose V n f) t i = rln V t i := fun t i ht => by
    unfold rln pLoose
    by_cases e : t = 9
    · subst e
      have : ¬ i = cnt V 9 := fun z => ht ⟨rfl, z⟩
      simp [u3_eq, urow_eq, this]
    · simp [u3_eq, urow_eq, e]
  have vn : ∀ t i, t ≠ 1 → t ≠ 7 → ¬ (t = 9 ∧ i = cnt V 9) → ∀ j, pLoose V n f t i j = V t i j := fun t i h1 h7 ht j => by
    unfold pLoose
    simp only [u3_eq, urow_eq]
    rw [if_neg (by omega), if_neg (by omega), if_neg ht]
  have hv : ∀ t i, swv (pLoose V n f) t i → ¬ (t = 9 ∧ i = cnt V 9) → swv V t i := fun t i hw hne => by
    rcases hw with hw | hw | ⟨ht, hi⟩
    · exact Or.inl hw
    · exact Or.inr (Or.inl hw)
    · refine Or.inr (Or.inr ⟨ht, ?_⟩)
      by_cases e : t = 9
      · subst e
        rw [c9] at hi
        omega
      · rw [cn t e] at hi
        exact hi
  refine h.gen (a := a) (Nat.le_refl _) ⟨fun t => ?_, fun i => ⟨?_, ?_⟩⟩ (fun t i => if t = 9 ∧ i = cnt V 9 then none else some (t, i)) hfr hFa (fun t i p hw e => ?_) (fun t i hw e => ?_) (fun t i t' i' _ _ e e' => ?_) (fun t i t' i' p _ _ e e' => ?_) (fun t i hw => ?_)
  · unfold pLoose
    by_cases e : t = 9
    · subst e
      rw [u3_at]
      exact isN_nI (by omega) (by decide)
    · simp only [u3_eq, urow_eq]
      rw [if_neg (by omega), if_neg (by omega), if_neg (by omega)]
      exact hb.1 t
  · unfold pLoose
    simp only [u3_eq, urow_eq]
    rw [if_neg (by omega), if_neg (by omega), if_neg (by omega)]
    exact (hb.2 i).1
  · unfold pLoose
    simp only [u3_eq, urow_eq]
    rw [if_neg (by omega)]
    split
    · exact isN_nI hn (by decide)
    · rw [if_neg (by omega)]
      exact (hb.2 i).2
  · have e : (if t = 9 ∧ i = cnt V 9 then none else some (t, i)) = some p := e
    by_cases z : t = 9 ∧ i = cnt V 9
    · rw [if_pos z] at e
      cases e
    · rw [if_neg z] at e
      cases e
      exact ⟨hv t i hw z, if_neg z⟩
  · have e : (if t = 9 ∧ i = cnt V 9 then none else some (t, i)) = none := e
    by_cases z : t = 9 ∧ i = cnt V 9
    · exact if_pos z
    · rw [if_neg z] at e
      cases e
  · have e : (if t = 9 ∧ i = cnt V 9 then none else some (t, i)) = none := e
    have e' : (if t' = 9 ∧ i' = cnt V 9 then none else some (t', i')) = none := e'
    by_cases z : t = 9 ∧ i = cnt V 9
    · by_cases z' : t' = 9 ∧ i' = cnt V 9
      · omega
      · rw [if_neg z'] at e'
        cases e'
    · rw [if_neg z] at e
      cases e
  · have e : (if t = 9 ∧ i = cnt V 9 then none else some (t, i)) = some p := e
    have e' : (if t' = 9 ∧ i' = cnt V 9 then none else some (t', i')) = some p := e'
    by_cases z : t = 9 ∧ i = cnt V 9
    · rw [if_pos z] at e
      cases e
    · by_cases z' : t' = 9 ∧ i' = cnt V 9
      · rw [if_pos z'] at e'
        cases e'
      · rw [if_neg z] at e
        rw [if_neg z'] at e'
        cases e
        cases e'
        exact ⟨rfl, rfl⟩
  · by_cases z : t = 9 ∧ i = cnt V 9
    · obtain ⟨rfl, rfl⟩ := z
      refine swc_ofr (by omega) ?_
      rw [show u2 D 9 (cnt V 9) a 9 (cnt V 9) = a from if_pos ⟨rfl, rfl⟩, r9, ha]
      refine congrArg some (arrV_alike (fun j _ => ?_))
      unfold pLoose
      simp [u3_eq, urow_eq]
    · have hw' := hv t i hw z
      refine (h.1 t i hw').same hw' rfl (if_neg z) (fun e => ⟨fun k hk => if_neg (by omega), fun j => vn 0 0 (by decide) (by decide) (by omega) j⟩) (fun e => ?_) (fun e => ⟨rn t i z, fun j _ => ?_⟩)
      · subst e
        have hi : 2 ≤ i ∧ i ≤ 5 := by
          rcases hw' with ⟨q, -⟩ | ⟨-, q⟩ | ⟨q, -⟩
          · cases q
          · exact q
          · omega
        exact ⟨cn i (by omega), fun j _ => if_neg (by omega)⟩
      · rcases hw' with ⟨q, -⟩ | ⟨q, -⟩ | ⟨q, -⟩
        · omega
        · omega
        · exact vn t i (by omega) (by omega) z j
theorem SW.drop {E : gE} {F : Nat → Prop} {D : sD} {V : gY} {H : Heap} {q : Nat} (h : SW E F D V H) (hq : q ≤ cnt V 9) : SW E F D (pDrop V q) H := by
  have hb := h.2.2.2.2
  have h330 := hb.cl 9
  have c9 : cnt (pDrop V q) 9 = q := by
    show (u3 _ 1 9 0 _ 1 9 0).toNatClampNeg = _
    rw [u3_at, nI_clamp (by omega)]
  have cn : ∀ t, t ≠ 9 → cnt (pDrop V q) t = cnt V t := fun t ht => by
    unfold cnt pDrop
    simp [u3_eq, ht]
  have rn : ∀ t i, rln (pDrop V q) t i = rln V t i := fun t i => by
    unfold rln pDrop
    simp [u3_eq]
  have vn : ∀ t i, t ≠ 1 → ∀ j, pDrop V q t i j = V t i j := fun t i h1 j => by
    unfold pDrop
    rw [u3_eq, if_neg (by omega)]
  have hv : ∀ t i, swv (pDrop V q) t i → swv V t i := fun t i hw => by
    rcases hw with hw | hw | ⟨ht, hi⟩
    · exact Or.inl hw
    · exact Or.inr (Or.inl hw)
    · refine Or.inr (Or.inr ⟨ht, ?_⟩)
      by_cases e : t = 9
      · subst e
        rw [c9] at hi
        omega
      · rw [cn t e] at hi
        exact hi
  refine ⟨fun t i hw => ?_, fun t i t' i' w w' e => h.2.1 _ _ _ _ (hv _ _ w) (hv _ _ w') e, fun t i w => h.2.2.1 t i (hv _ _ w), h.2.2.2.1, ⟨fun t => ?_, fun i => ⟨?_, ?_⟩⟩⟩
  · have hw' := hv t i hw
    refine (h.1 t i hw').same hw' rfl rfl (fun e => ⟨fun _ _ => rfl, fun j => vn 0 0 (by decide) j⟩) (fun e => ?_) (fun e => ⟨rn t i, fun j _ => vn t i (by omega) j⟩)
    subst e
    have hi : 2 ≤ i ∧ i ≤ 5 := by
      rcases hw' with ⟨q, -⟩ | ⟨-, q⟩ | ⟨q, -⟩
      · cases q
      · exact q
      · omega
    exact ⟨cn i (by omega), fun _ _ => rfl⟩
  · unfold pDrop
    by_cases e : t = 9
    · subst e
      rw [u3_at]
      exact isN_nI (by omega) (by decide)
    · rw [u3_eq, if_neg (by omega)]
      exact hb.1 t
  · unfold pDrop
    rw [u3_eq, if_neg (by omega)]
    exact (hb.2 i).1
  · unfold pDrop
    rw [u3_eq, if_neg (by omega)]
    exact (hb.2 i).2
theorem SW.more {E : gE} {F : Nat → Prop} {D : sD} {V : gY} {H H2 : Heap} {a t : Nat} (h : SW E F D V H) (ht : 2 ≤ t ∧ t ≤ 5) (ha : H2[a]? = some (arrV (E.2.1 4) (cnt V t + 1) (fun j => if j < cnt V t then .ref (D t j) else .ref (D 9 (cnt V 9 - 1))))) (hfr : ∀ t i, swv V t i → D t i ≠ a) (hFa : F a) (ho : t_OB (D 0 0) (E.1.1 5) 9 (E.1.2 5) H2 (updV (sO D V) t (.ref a))) (hz : H2.size = H.size) (hq : ∀ q, q ≠ D 0 0 → H2[q]? = H[q]?) (h9 : 0 < cnt V 9) (hN : cnt V t < 330) (hlen : t ≠ 3 → rln V 9 (cnt V 9 - 1) = rln V t 0) :
    SW E F (u2 (u2 D 1 t a) t (cnt V t) (D 9 (cnt V 9 - 1))) (pMore V t) H2 := by
  have hb := h.2.2.2.2
  have h330 := hb.cl 9
  have ct : cnt (pMore V t) t = cnt V t + 1 := by
    unfold cnt pMore
    rw [u3_eq, if_neg (by omega), u3_eq, if_pos ⟨rfl, rfl, rfl⟩, nI_clamp (by omega)]
    rfl
  have c9 : cnt (pMore V t) 9 = cnt V 9 - 1 := by
    show (u3 _ 1 9 0 _ 1 9 0).toNatClampNeg = _
    rw [u3_at, nI_clamp (by omega)]
  have inner : ∀ t' i' j', t' ≠ 6 → (if t = 3 then u3 (urow V t (cnt V t) (V 9 (cnt V 9 - 1))) 6 (cnt V t) 0 (V 7 (cnt V 9 - 1) 0) else urow V t (cnt V t) (V 9 (cnt V 9 - 1))) t' i' j' = urow V t (cnt V t) (V 9 (cnt V 9 - 1)) t' i' j' := fun t' i' j' h6 => by
    split
    · rw [u3_eq, if_neg (by omega)]
    · rfl
  have cn : ∀ t', t' ≠ 9 → t' ≠ t → cnt (pMore V t) t' = cnt V t' := fun t' h1 h2 => by
    unfold cnt pMore
    rw [u3_eq, if_neg (by omega), u3_eq, if_neg (by omega), inner 1 t' 0 (by decide), urow_eq, if_neg (by omega)]
  have vn : ∀ t' i', t' ≠ 1 → t' ≠ 6 → ¬ (t' = t ∧ i' = cnt V t) → ∀ j, pMore V t t' i' j = V t' i' j := fun t' i' h1 h6 hne j => by
    unfold pMore
    rw [u3_eq, if_neg (by omega), u3_eq, if_neg (by omega), inner t' i' j h6, urow_eq, if_neg hne]
  have vN : ∀ j, pMore V t t (cnt V t) j = V 9 (cnt V 9 - 1) j := fun j => by
    unfold pMore
    rw [u3_eq, if_neg (by omega), u3_eq, if_neg (by omega), inner t _ j (by omega), urow_eq, if_pos ⟨rfl, rfl⟩]
  have v6 : ∀ i, pMore V t 6 i 0 = if t = 3 ∧ i = cnt V t then V 7 (cnt V 9 - 1) 0 else V 6 i 0 := fun i => by
    unfold pMore
    rw [u3_eq, if_neg (by omega), u3_eq, if_neg (by omega)]
    by_cases e : t = 3
    · rw [if_pos e, u3_eq]
      by_cases e2 : i = cnt V t
      · rw [if_pos ⟨rfl, e2, rfl⟩, if_pos ⟨e, e2⟩]
      · rw [if_neg (by omega), if_neg (by omega), urow_eq, if_neg (by omega)]
    · rw [if_neg e, if_neg (fun q => e q.1), urow_eq, if_neg (by omega)]
  have v7 : ∀ i j, pMore V t 7 i j = V 7 i j := fun i j => vn 7 i (by decide) (by decide) (by omega) j
  have rn : ∀ t' i', ¬ (t' = t ∧ i' = cnt V t) → rln (pMore V t) t' i' = rln V t' i' := fun t' i' hne => by
    unfold rln
    rw [v6, v7]
    by_cases e : t' = 3
    · subst e
      have z : ¬ (t = 3 ∧ i' = cnt V t) := fun q => hne ⟨q.1.symm, q.2⟩
      simp [z]
    · simp [e]
  have rN : rln (pMore V t) t (cnt V t) = rln V 9 (cnt V 9 - 1) := by
    by_cases e : t = 3
    · subst e
      unfold rln
      rw [if_neg (by decide), if_pos rfl, v6, if_pos ⟨rfl, rfl⟩, if_neg (by decide), if_neg (by decide), if_pos rfl]
    · rw [hlen e]
      unfold rln
      simp [e, show ¬ t = 9 by omega]
  have hv : ∀ t' i', swv (pMore V t) t' i' → ¬ (t' = t ∧ i' = cnt V t) → swv V t' i' := fun t' i' hw hne => by
    rcases hw with hw | hw | ⟨ht', hi⟩
    · exact Or.inl hw
    · exact Or.inr (Or.inl hw)
    · refine Or.inr (Or.inr ⟨ht', ?_⟩)
      by_cases e : t' = 9
      · subst e
        rw [c9] at hi
        omega
      · by_cases e2 : t' = t
        · subst e2
          rw [ct] at hi
          omega
        · rw [cn t' e e2] at hi
          exact hi
  have hne0 : ∀ t' i', swv V t' i' → ¬ (t' = 0 ∧ i' = 0) → H2[D t' i']? = H[D t' i']? := fun t' i' hw hn => hq _ (fun z => hn (h.2.1 _ _ _ _ hw (swv0 V) z))
  have hw9 : swv V 9 (cnt V 9 - 1) := swvr (by omega) (by omega)
  refine h.gen (a := a) (by omega) ⟨fun t' => ?_, fun i => ⟨?_, ?_⟩⟩ (fun t' i' => if t' = 1 ∧ i' = t then none else if t' = t ∧ i' = cnt V t then some (9, cnt V 9 - 1) else some (t', i')) hfr hFa (fun t' i' p hw e => ?_) (fun t' i' hw e => ?_) (fun t1 i1 t2 i2 _ _ e e' => ?_) (fun t1 i1 t2 i2 p w1 w2 e e' => ?_) (fun t' i' hw => ?_)
  · by_cases e : t' = 9
    · subst e
      exact isN_of (k := cnt V 9 - 1) (by unfold pMore; rw [u3_at]) (by omega) (by decide)
    · by_cases e2 : t' = t
      · subst e2
        exact isN_of (k := cnt V t' + 1) (by unfold pMore; rw [u3_eq, if_neg (by omega), u3_at]) (by omega) (by decide)
      · have : pMore V t 1 t' 0 = V 1 t' 0 := by
          unfold pMore
          rw [u3_eq, if_neg (by omega), u3_eq, if_neg (by omega), inner 1 t' 0 (by decide), urow_eq, if_neg (by omega)]
        rw [this]
        exact hb.1 t'
  · rw [v6]
    split
    · exact (hb.2 _).2
    · exact (hb.2 i).1
  · rw [v7]
    exact (hb.2 i).2
  · have e : (if t' = 1 ∧ i' = t then none else if t' = t ∧ i' = cnt V t then some (9, cnt V 9 - 1) else some (t', i')) = some p := e
    by_cases z : t' = 1 ∧ i' = t
    · rw [if_pos z] at e
      cases e
    · rw [if_neg z] at e
      by_cases z2 : t' = t ∧ i' = cnt V t
      · rw [if_pos z2] at e
        cases e
        exact ⟨hw9, by rw [u2_eq, if_pos z2]⟩
      · rw [if_neg z2] at e
        cases e
        exact ⟨hv t' i' hw z2, by rw [u2_eq, if_neg z2, u2_eq, if_neg z]⟩
  · have e : (if t' = 1 ∧ i' = t then none else if t' = t ∧ i' = cnt V t then some (9, cnt V 9 - 1) else some (t', i')) = none := e
    by_cases z : t' = 1 ∧ i' = t
    · rw [u2_eq, if_neg (by omega), u2_eq, if_pos z]
    · rw [if_neg z] at e
      split at e <;> cases e
  · have e : (if t1 = 1 ∧ i1 = t then none else if t1 = t ∧ i1 = cnt V t then some (9, cnt V 9 - 1) else some (t1, i1)) = none := e
    have e' : (if t2 = 1 ∧ i2 = t then none else if t2 = t ∧ i2 = cnt V t then some (9, cnt V 9 - 1) else some (t2, i2)) = none := e'
    by_cases z : t1 = 1 ∧ i1 = t
    · by_cases z' : t2 = 1 ∧ i2 = t
      · omega
      · rw [if_neg z'] at e'
        split at e' <;> cases e'
    · rw [if_neg z] at e
      split at e <;> cases e
  · have e : (if t1 = 1 ∧ i1 = t then none else if t1 = t ∧ i1 = cnt V t then some (9, cnt V 9 - 1) else some (t1, i1)) = some p := e
    have e' : (if t2 = 1 ∧ i2 = t then none else if t2 = t ∧ i2 = cnt V t then some (9, cnt V 9 - 1) else some (t2, i2)) = some p := e'
    have n9 : ∀ t3 i3, swv (pMore V t) t3 i3 → ¬ (t3 = 9 ∧ i3 = cnt V 9 - 1) := fun t3 i3 w z => by
      obtain ⟨rfl, rfl⟩ := z
      rcases w with ⟨q, -⟩ | ⟨q, -⟩ | ⟨-, q⟩
      · cases q
      · cases q
      · rw [c9] at q
        omega
    by_cases z : t1 = 1 ∧ i1 = t
    · rw [if_pos z] at e
      cases e
    · rw [if_neg z] at e
      by_cases z' : t2 = 1 ∧ i2 = t
      · rw [if_pos z'] at e'
        cases e'
      · rw [if_neg z'] at e'
        by_cases y1 : t1 = t ∧ i1 = cnt V t
        · rw [if_pos y1] at e
          cases e
          by_cases y2 : t2 = t ∧ i2 = cnt V t
          · omega
          · rw [if_neg y2] at e'
            cases e'
            exact absurd ⟨rfl, rfl⟩ (n9 _ _ w2)
        · rw [if_neg y1] at e
          cases e
          by_cases y2 : t2 = t ∧ i2 = cnt V t
          · rw [if_pos y2] at e'
            cases e'
            exact absurd ⟨rfl, rfl⟩ (n9 _ _ w1)
          · rw [if_neg y2] at e'
            cases e'
            exact ⟨rfl, rfl⟩
  · by_cases z2 : t' = t ∧ i' = cnt V t
    · obtain ⟨rfl, rfl⟩ := z2
      refine swc_ofr (by omega) ?_
      rw [u2_eq, if_pos ⟨rfl, rfl⟩, hne0 _ _ hw9 (by omega), h.cr (by omega) (by omega : cnt V 9 - 1 < cnt V 9), rN]
      exact congrArg some (arrV_alike (fun j _ => by rw [vN]))
    · have hw' := hv t' i' hw z2
      by_cases z : t' = 1 ∧ i' = t
      · obtain ⟨rfl, rfl⟩ := z
        refine swc_of1 ?_
        rw [u2_eq, if_neg (by omega), u2_eq, if_pos ⟨rfl, rfl⟩, ha, ct]
        refine congrArg some (arrV_alike (fun j hj => ?_))
        by_cases e : j < cnt V i'
        · rw [if_pos e, u2_eq, if_neg (by omega), u2_eq, if_neg (by omega)]
        · rw [if_neg e, u2_eq, if_pos ⟨rfl, by omega⟩]
      · by_cases z0 : t' = 0 ∧ i' = 0
        · obtain ⟨rfl, rfl⟩ := z0
          refine swc_of0 ?_ 0
          rw [u2_eq, if_neg (by omega), u2_eq, if_neg (by omega)]
          refine ho.to (fun k _ => ?_)
          unfold updV sO
          by_cases e : k = t
          · subst e
            rw [if_pos rfl, if_pos ht, u2_eq, if_neg (by omega), u2_eq, if_pos ⟨rfl, rfl⟩]
          · rw [if_neg e]
            by_cases e2 : 2 ≤ k ∧ k ≤ 5
            · rw [if_pos e2, if_pos e2, u2_eq, if_neg (by omega), u2_eq, if_neg (by omega)]
            · rw [if_neg e2, if_neg e2, vn 0 0 (by decide) (by decide) (by omega)]
        · refine (h.1 t' i' hw').same hw' (hne0 _ _ hw' z0) (by rw [u2_eq, if_neg z2, u2_eq, if_neg z]) (fun e => absurd ⟨e, hw'.z e⟩ z0) (fun e => ?_) (fun e => ⟨rn t' i' z2, fun j _ => ?_⟩)
          · subst e
            have hi : 2 ≤ i' ∧ i' ≤ 5 := by
              rcases hw' with ⟨q, -⟩ | ⟨-, q⟩ | ⟨q, -⟩
              · cases q
              · exact q
              · omega
            exact ⟨cn i' (by omega) (by omega), fun j _ => by rw [u2_eq, if_neg (by omega), u2_eq, if_neg (by omega)]⟩
          · rcases hw' with ⟨q, -⟩ | ⟨q, -⟩ | ⟨q, -⟩
            · omega
            · omega
            · exact vn t' i' (by omega) (by omega) z2 j
/-- a cart anew: the last loose row -/
theorem SW.cart {E : gE} {F : Nat → Prop} {D : sD} {V : gY} {H H2 : Heap} {k : Nat} (h : SW E F D V H) (hk : k < cnt V 3) (ha : H2[D 1 3]? = some (arrV (E.2.1 4) (cnt V 3) (updV (fun j => .ref (D 3 j)) k (.ref (D 9 (cnt V 9 - 1)))))) (hz : H2.size = H.size) (hq : ∀ q, q ≠ D 1 3 → H2[q]? = H[q]?) (h9 : 0 < cnt V 9) :
    SW E F (u2 D 3 k (D 9 (cnt V 9 - 1))) (pCart V k) H2 := by
  have hb := h.2.2.2.2
  have h330 := hb.cl 9
  have c9 : cnt (pCart V k) 9 = cnt V 9 - 1 := by
    show (u3 _ 1 9 0 _ 1 9 0).toNatClampNeg = _
    rw [u3_at, nI_clamp (by omega)]
  have cn : ∀ t', t' ≠ 9 → cnt (pCart V k) t' = cnt V t' := fun t' h1 => by
    unfold cnt pCart
    rw [u3_eq, if_neg (by omega), u3_eq, if_neg (by omega), urow_eq, if_neg (by omega)]
  have vn : ∀ t' i', t' ≠ 1 → t' ≠ 6 → ¬ (t' = 3 ∧ i' = k) → ∀ j, pCart V k t' i' j = V t' i' j := fun t' i' h1 h6 hne j => by
    unfold pCart
    rw [u3_eq, if_neg (by omega), u3_eq, if_neg (by omega), urow_eq, if_neg hne]
  have vN : ∀ j, pCart V k 3 k j = V 9 (cnt V 9 - 1) j := fun j => by
    unfold pCart
    rw [u3_eq, if_neg (by omega), u3_eq, if_neg (by omega), urow_eq, if_pos ⟨rfl, rfl⟩]
  have v6 : ∀ i, pCart V k 6 i 0 = if i = k then V 7 (cnt V 9 - 1) 0 else V 6 i 0 := fun i => by
    unfold pCart
    rw [u3_eq, if_neg (by omega), u3_eq]
    by_cases e2 : i = k
    · rw [if_pos ⟨rfl, e2, rfl⟩, if_pos e2]
    · rw [if_neg (by omega), if_neg e2, urow_eq, if_neg (by omega)]
  have v7 : ∀ i j, pCart V k 7 i j = V 7 i j := fun i j => vn 7 i (by decide) (by decide) (by omega) j
  have rn : ∀ t' i', ¬ (t' = 3 ∧ i' = k) → rln (pCart V k) t' i' = rln V t' i' := fun t' i' hne => by
    unfold rln
    rw [v6, v7]
    by_cases e : t' = 3
    · subst e
      have z : ¬ i' = k := fun q => hne ⟨rfl, q⟩
      simp [z]
    · simp [e]
  have rN : rln (pCart V k) 3 k = rln V 9 (cnt V 9 - 1) := by
    unfold rln
    simp [v6]
  have hv : ∀ t' i', swv (pCart V k) t' i' → swv V t' i' := fun t' i' hw => by
    rcases hw with hw | hw | ⟨ht', hi⟩
    · exact Or.inl hw
    · exact Or.inr (Or.inl hw)
    · refine Or.inr (Or.inr ⟨ht', ?_⟩)
      by_cases e : t' = 9
      · subst e
        rw [c9] at hi
        omega
      · rw [cn t' e] at hi
        exact hi
  have hne0 : ∀ t' i', swv V t' i' → ¬ (t' = 1 ∧ i' = 3) → H2[D t' i']? = H[D t' i']? := fun t' i' hw hn => hq _ (fun z => hn (h.2.1 _ _ _ _ hw (swv1 V (by omega)) z))
  have hw9 : swv V 9 (cnt V 9 - 1) := swvr (by omega) (by omega)
  refine h.gen (a := H.size) (by omega) ⟨fun t' => ?_, fun i => ⟨?_, ?_⟩⟩ (fun t' i' => if t' = 3 ∧ i' = k then some (9, cnt V 9 - 1) else some (t', i')) (fun t i hw => Nat.ne_of_lt (h.lt hw)) (h.2.2.2.1 _ (Nat.le_refl _)) (fun t' i' p hw e => ?_) (fun t' i' hw e => ?_) (fun t1 i1 t2 i2 _ _ e e' => ?_) (fun t1 i1 t2 i2 p w1 w2 e e' => ?_) (fun t' i' hw => ?_)
  · by_cases e : t' = 9
    · subst e
      exact isN_of (k := cnt V 9 - 1) (by unfold pCart; rw [u3_at]) (by omega) (by decide)
    · have : pCart V k 1 t' 0 = V 1 t' 0 := by
        unfold pCart
        rw [u3_eq, if_neg (by omega), u3_eq, if_neg (by omega), urow_eq, if_neg (by omega)]
      rw [this]
      exact hb.1 t'
  · rw [v6]
    split
    · exact (hb.2 _).2
    · exact (hb.2 i).1
  · rw [v7]
    exact (hb.2 i).2
  · have e : (if t' = 3 ∧ i' = k then some (9, cnt V 9 - 1) else some (t', i')) = some p := e
    by_cases z2 : t' = 3 ∧ i' = k
    · rw [if_pos z2] at e
      cases e
      exact ⟨hw9, by rw [u2_eq, if_pos z2]⟩
    · rw [if_neg z2] at e
      cases e
      exact ⟨hv t' i' hw, by rw [u2_eq, if_neg z2]⟩
  · have e : (if t' = 3 ∧ i' = k then some (9, cnt V 9 - 1) else some (t', i')) = none := e
    split at e <;> cases e
  · have e : (if t1 = 3 ∧ i1 = k then some (9, cnt V 9 - 1) else some (t1, i1)) = none := e
    split at e <;> cases e
  · have e : (if t1 = 3 ∧ i1 = k then some (9, cnt V 9 - 1) else some (t1, i1)) = some p := e
    have e' : (if t2 = 3 ∧ i2 = k then some (9, cnt V 9 - 1) else some (t2, i2)) = some p := e'
    have n9 : ∀ t3 i3, swv (pCart V k) t3 i3 → ¬ (t3 = 9 ∧ i3 = cnt V 9 - 1) := fun t3 i3 w z => by
      obtain ⟨rfl, rfl⟩ := z
      rcases w with ⟨q, -⟩ | ⟨q, -⟩ | ⟨-, q⟩
      · cases q
      · cases q
      · rw [c9] at q
        omega
    by_cases y1 : t1 = 3 ∧ i1 = k
    · rw [if_pos y1] at e
      cases e
      by_cases y2 : t2 = 3 ∧ i2 = k
      · omega
      · rw [if_neg y2] at e'
        cases e'
        exact absurd ⟨rfl, rfl⟩ (n9 _ _ w2)
    · rw [if_neg y1] at e
      cases e
      by_cases y2 : t2 = 3 ∧ i2 = k
      · rw [if_pos y2] at e'
        cases e'
        exact absurd ⟨rfl, rfl⟩ (n9 _ _ w1)
      · rw [if_neg y2] at e'
        cases e'
        exact ⟨rfl, rfl⟩
  · have hw' := hv t' i' hw
    by_cases z2 : t' = 3 ∧ i' = k
    · obtain ⟨rfl, rfl⟩ := z2
      refine swc_ofr (by omega) ?_
      rw [u2_eq, if_pos ⟨rfl, rfl⟩, hne0 _ _ hw9 (by omega), h.cr (by omega) (by omega : cnt V 9 - 1 < cnt V 9), rN]
      exact congrArg some (arrV_alike (fun j _ => by rw [vN]))
    · by_cases z : t' = 1 ∧ i' = 3
      · obtain ⟨rfl, rfl⟩ := z
        refine swc_of1 ?_
        rw [u2_eq, if_neg (by omega), ha, cn 3 (by decide)]
        refine congrArg some (arrV_alike (fun j hj => ?_))
        unfold updV
        by_cases e : j = k
        · rw [if_pos e, u2_eq, if_pos ⟨rfl, e⟩]
        · rw [if_neg e, u2_eq, if_neg (by omega)]
      · refine (h.1 t' i' hw').same hw' (hne0 _ _ hw' z) (by rw [u2_eq, if_neg z2]) (fun e => ⟨fun k _ => by rw [u2_eq, if_neg (by omega)], fun j => vn 0 0 (by decide) (by decide) (by omega) j⟩) (fun e => ?_) (fun e => ⟨rn t' i' z2, fun j _ => ?_⟩)
        · subst e
          have hi : 2 ≤ i' ∧ i' ≤ 5 := by
            rcases hw' with ⟨q, -⟩ | ⟨-, q⟩ | ⟨q, -⟩
            · cases q
            · exact q
            · omega
          exact ⟨cn i' (by omega), fun j _ => by rw [u2_eq, if_neg (by omega)]⟩
        · rcases hw' with ⟨q, -⟩ | ⟨q, -⟩ | ⟨q, -⟩
          · omega
          · omega
          · exact vn t' i' (by omega) (by omega) z2 j
/-- two carts change -/
theorem SW.swap {E : gE} {F : Nat → Prop} {D : sD} {V : gY} {H H2 : Heap} {a b : Nat} (h : SW E F D V H) (ha9 : a < cnt V 3) (hb9 : b < cnt V 3) (hab : a ≠ b) (ha : H2[D 1 3]? = some (arrV (E.2.1 4) (cnt V 3) (updV (updV (fun j => .ref (D 3 j)) a (.ref (D 3 b))) b (.ref (D 3 a))))) (hz : H2.size = H.size) (hq : ∀ q, q ≠ D 1 3 → H2[q]? = H[q]?) :
    SW E F (u2 (u2 D 3 a (D 3 b)) 3 b (D 3 a)) (pSwap V a b) H2 := by
  have hb := h.2.2.2.2
  have cn : ∀ t', cnt (pSwap V a b) t' = cnt V t' := fun t' => by
    unfold cnt pSwap
    rw [u3_eq, if_neg (by omega), u3_eq, if_neg (by omega), urow_eq, if_neg (by omega), urow_eq, if_neg (by omega)]
  have vn : ∀ t' i', t' ≠ 6 → ¬ (t' = 3 ∧ i' = a) → ¬ (t' = 3 ∧ i' = b) → ∀ j, pSwap V a b t' i' j = V t' i' j := fun t' i' h6 hne hne2 j => by
    unfold pSwap
    rw [u3_eq, if_neg (by omega), u3_eq, if_neg (by omega), urow_eq, if_neg hne2, urow_eq, if_neg hne]
  have va : ∀ j, pSwap V a b 3 a j = V 3 b j := fun j => by
    unfold pSwap
    rw [u3_eq, if_neg (by omega), u3_eq, if_neg (by omega), urow_eq, if_neg (by omega), urow_eq, if_pos ⟨rfl, rfl⟩]
  have vb : ∀ j, pSwap V a b 3 b j = V 3 a j := fun j => by
    unfold pSwap
    rw [u3_eq, if_neg (by omega), u3_eq, if_neg (by omega), urow_eq, if_pos ⟨rfl, rfl⟩]
  have v6 : ∀ i, pSwap V a b 6 i 0 = if i = b then V 6 a 0 else if i = a then V 6 b 0 else V 6 i 0 := fun i => by
    unfold pSwap
    rw [u3_eq]
    by_cases e2 : i = b
    · rw [if_pos ⟨rfl, e2, rfl⟩, if_pos e2]
    · rw [if_neg (by omega), if_neg e2, u3_eq]
      by_cases e3 : i = a
      · rw [if_pos ⟨rfl, e3, rfl⟩, if_pos e3]
      · rw [if_neg (by omega), if_neg e3, urow_eq, if_neg (by omega), urow_eq, if_neg (by omega)]
  have v7 : ∀ i j, pSwap V a b 7 i j = V 7 i j := fun i j => vn 7 i (by decide) (by omega) (by omega) j
  have rn : ∀ t' i', ¬ (t' = 3 ∧ i' = a) → ¬ (t' = 3 ∧ i' = b) → rln (pSwap V a b) t' i' = rln V t' i' := fun t' i' hne hne2 => by
    unfold rln
    rw [v6, v7]
    by_cases e : t' = 3
    · subst e
      have z : ¬ i' = a := fun q => hne ⟨rfl, q⟩
      have z2 : ¬ i' = b := fun q => hne2 ⟨rfl, q⟩
      simp [z, z2]
    · simp [e]
  have ra : rln (pSwap V a b) 3 a = rln V 3 b := by
    unfold rln
    simp [v6, hab]
  have rb : rln (pSwap V a b) 3 b = rln V 3 a := by
    unfold rln
    simp [v6]
  have hv : ∀ t' i', swv (pSwap V a b) t' i' → swv V t' i' := fun t' i' hw => by
    unfold swv at hw ⊢
    rw [cn] at hw
    exact hw
  have hne0 : ∀ t' i', swv V t' i' → ¬ (t' = 1 ∧ i' = 3) → H2[D t' i']? = H[D t' i']? := fun t' i' hw hn => hq _ (fun z => hn (h.2.1 _ _ _ _ hw (swv1 V (by omega)) z))
  refine h.gen (a := H.size) (by omega) ⟨fun t' => ?_, fun i => ⟨?_, ?_⟩⟩ (fun t' i' => if t' = 3 ∧ i' = a then some (3, b) else if t' = 3 ∧ i' = b then some (3, a) else some (t', i')) (fun t i hw => Nat.ne_of_lt (h.lt hw)) (h.2.2.2.1 _ (Nat.le_refl _)) (fun t' i' p hw e => ?_) (fun t' i' hw e => ?_) (fun t1 i1 t2 i2 _ _ e e' => ?_) (fun t1 i1 t2 i2 p w1 w2 e e' => ?_) (fun t' i' hw => ?_)
  · have : pSwap V a b 1 t' 0 = V 1 t' 0 := vn 1 t' (by decide) (by omega) (by omega) 0
    rw [this]
    exact hb.1 t'
  · rw [v6]
    split
    · exact (hb.2 _).1
    · split
      · exact (hb.2 _).1
      · exact (hb.2 i).1
  · rw [v7]
    exact (hb.2 i).2
  · have e : (if t' = 3 ∧ i' = a then some (3, b) else if t' = 3 ∧ i' = b then some (3, a) else some (t', i')) = some p := e
    by_cases z : t' = 3 ∧ i' = a
    · rw [if_pos z] at e
      cases e
      exact ⟨swvr (by omega) hb9, by rw [u2_eq, if_neg (by omega), u2_eq, if_pos z]⟩
    · rw [if_neg z] at e
      by_cases z2 : t' = 3 ∧ i' = b
      · rw [if_pos z2] at e
        cases e
        exact ⟨swvr (by omega) ha9, by rw [u2_eq, if_pos z2]⟩
      · rw [if_neg z2] at e
        cases e
        exact ⟨hv t' i' hw, by rw [u2_eq, if_neg z2, u2_eq, if_neg z]⟩
  · have e : (if t' = 3 ∧ i' = a then some (3, b) else if t' = 3 ∧ i' = b then some (3, a) else some (t', i')) = none := e
    split at e
    · cases e
    · split at e <;> cases e
  · have e : (if t1 = 3 ∧ i1 = a then some (3, b) else if t1 = 3 ∧ i1 = b then some (3, a) else some (t1, i1)) = none := e
    split at e
    · cases e
    · split at e <;> cases e
  · have e : (if t1 = 3 ∧ i1 = a then some (3, b) else if t1 = 3 ∧ i1 = b then some (3, a) else some (t1, i1)) = some p := e
    have e' : (if t2 = 3 ∧ i2 = a then some (3, b) else if t2 = 3 ∧ i2 = b then some (3, a) else some (t2, i2)) = some p := e'
    by_cases y1 : t1 = 3 ∧ i1 = a
    · rw [if_pos y1] at e
      cases e
      by_cases y2 : t2 = 3 ∧ i2 = a
      · omega
      · rw [if_neg y2] at e'
        by_cases y3 : t2 = 3 ∧ i2 = b
        · rw [if_pos y3] at e'
          injection e' with e'
          injection e' with e1 e2
          omega
        · rw [if_neg y3] at e'
          injection e' with e'
          injection e' with e1 e2
          omega
    · rw [if_neg y1] at e
      by_cases y3 : t1 = 3 ∧ i1 = b
      · rw [if_pos y3] at e
        cases e
        by_cases y2 : t2 = 3 ∧ i2 = a
        · rw [if_pos y2] at e'
          injection e' with e'
          injection e' with e1 e2
          omega
        · rw [if_neg y2] at e'
          by_cases y4 : t2 = 3 ∧ i2 = b
          · omega
          · rw [if_neg y4] at e'
            injection e' with e'
            injection e' with e1 e2
            omega
      · rw [if_neg y3] at e
        cases e
        by_cases y2 : t2 = 3 ∧ i2 = a
        · rw [if_pos y2] at e'
          injection e' with e'
          injection e' with e1 e2
          omega
        · rw [if_neg y2] at e'
          by_cases y4 : t2 = 3 ∧ i2 = b
          · rw [if_pos y4] at e'
            injection e' with e'
            injection e' with e1 e2
            omega
          · rw [if_neg y4] at e'
            cases e'
            exact ⟨rfl, rfl⟩
  · have hw' := hv t' i' hw
    by_cases z : t' = 3 ∧ i' = a
    · obtain ⟨rfl, rfl⟩ := z
      refine swc_ofr (by omega) ?_
      rw [u2_eq, if_neg (by omega), u2_eq, if_pos ⟨rfl, rfl⟩, hne0 _ _ (swvr (by omega) hb9) (by omega), h.cr (by omega) hb9, ra]
      exact congrArg some (arrV_alike (fun j _ => by rw [va]))
    · by_cases z2 : t' = 3 ∧ i' = b
      · obtain ⟨rfl, rfl⟩ := z2
        refine swc_ofr (by omega) ?_
        rw [u2_eq, if_pos ⟨rfl, rfl⟩, hne0 _ _ (swvr (by omega) ha9) (by omega), h.cr (by omega) ha9, rb]
        exact congrArg some (arrV_alike (fun j _ => by rw [vb]))
      · by_cases z3 : t' = 1 ∧ i' = 3
        · obtain ⟨rfl, rfl⟩ := z3
          refine swc_of1 ?_
          rw [u2_eq, if_neg (by omega), u2_eq, if_neg (by omega), ha, cn]
          refine congrArg some (arrV_alike (fun j hj => ?_))
          unfold updV
          by_cases e : j = b
          · simp [u2_eq, e]
          · by_cases e2 : j = a
            · simp [u2_eq, e2, hab]
            · simp [u2_eq, e, e2]
        · refine (h.1 t' i' hw').same hw' (hne0 _ _ hw' z3) (by rw [u2_eq, if_neg z2, u2_eq, if_neg z]) (fun e => ⟨fun k _ => by rw [u2_eq, if_neg (by omega), u2_eq, if_neg (by omega)], fun j => vn 0 0 (by decide) (by omega) (by omega) j⟩) (fun e => ?_) (fun e => ⟨rn t' i' z z2, fun j _ => ?_⟩)
          · subst e
            have hi : 2 ≤ i' ∧ i' ≤ 5 := by
              rcases hw' with ⟨q, -⟩ | ⟨-, q⟩ | ⟨q, -⟩
              · cases q
              · exact q
              · omega
            exact ⟨cn i', fun j _ => by rw [u2_eq, if_neg (by omega), u2_eq, if_neg (by omega)]⟩
          · rcases hw' with ⟨q, -⟩ | ⟨q, -⟩ | ⟨q, -⟩
            · omega
            · omega
            · exact vn t' i' (by omega) z z2 j
