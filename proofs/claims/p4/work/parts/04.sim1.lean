/-! THE SMALL MACHINE OVER THE REAL ONE: rho: the places' addresses; zt: the constant arrays' addresses; cT: the array classes -/
def mm_v (rho : List Nat) (zt : Nat → Nat) (v : mm_V) : Value := match v with
  | .inl x => .int x
  | .inr (.inl x) => .long x
  | .inr (.inr (.inl none)) => .null
  | .inr (.inr (.inl (some a))) => .ref (rho.getD a 0)
  | .inr (.inr (.inr j)) => .ref (zt j)
def mm_q (rho : List Nat) (r : Option Nat) : Option Nat := r.map fun a => rho.getD a 0
def mm_e (rho : List Nat) (zt : Nat → Nat) (cT : Nat → ClassId) (o : mm_O) : va_E := match o with
  | .inl q => .inr (q.1, q.2.map (mm_v rho zt))
  | .inr (.inl q) => .inl (cT q.1, q.2.length, .inl fun j => q.2.getD j 0)
  | .inr (.inr (.inl xs)) => .inl (cT 3, xs.length, .inr (.inl fun j => xs.getD j 0))
  | .inr (.inr (.inr q)) => .inl (cT (q.1 + 4), q.2.length, .inr (.inr (.inr (.inr fun j => mm_q rho (q.2.getD j none)))))
def mm_w (rho : List Nat) (zt : Nat → Nat) (cT : Nat → ClassId) (cs : List mm_O) : va_W := List.zipWith (fun a o => (a, mm_e rho zt cT o)) rho cs
/-- no place beyond the row -/
def mm_ok (n : Nat) (v : mm_V) : Prop := match v with
  | .inr (.inr (.inl (some a))) => a < n
  | _ => True
def mm_okO (n : Nat) (o : mm_O) : Prop := match o with
  | .inl q => ∀ v ∈ q.2, mm_ok n v
  | .inr (.inr (.inr q)) => ∀ a, some a ∈ q.2 → a < n
  | _ => True
theorem mm_ok_mono {n n' : Nat} (h : n ≤ n') {v : mm_V} (hv : mm_ok n v) : mm_ok n' v := by
  obtain x | x | (_ | a) | j := v <;> simp only [mm_ok] at hv ⊢
  omega
theorem mm_okO_mono {n n' : Nat} (h : n ≤ n') {o : mm_O} (ho : mm_okO n o) : mm_okO n' o := by
  obtain q | xs | xs | q := o <;> simp only [mm_okO] at ho ⊢
  · exact fun v hv => mm_ok_mono h (ho v hv)
  · exact fun a ha => Nat.lt_of_lt_of_le (ho a ha) h
theorem mm_getD_app {rho t : List Nat} {a : Nat} (h : a < rho.length) : (rho ++ t).getD a 0 = rho.getD a 0 := by
  simp [List.getD_eq_getElem?_getD, List.getElem?_append_left h]
theorem mm_v_app {rho t : List Nat} {zt : Nat → Nat} {v : mm_V} (h : mm_ok rho.length v) : mm_v (rho ++ t) zt v = mm_v rho zt v := by
  obtain x | x | (_ | a) | j := v <;> simp only [mm_v]
  simp only [mm_ok] at h
  rw [mm_getD_app h]
theorem mm_q_app {rho t : List Nat} {r : Option Nat} (h : ∀ a, r = some a → a < rho.length) : mm_q (rho ++ t) r = mm_q rho r := by
  cases r with
  | none => rfl
  | some a => simp only [mm_q, Option.map_some, mm_getD_app (h a rfl)]
theorem mm_e_app {rho t : List Nat} {zt : Nat → Nat} {cT : Nat → ClassId} {o : mm_O} (h : mm_okO rho.length o) : mm_e (rho ++ t) zt cT o = mm_e rho zt cT o := by
  obtain q | xs | xs | q := o
  · simp only [mm_e, mm_okO] at h ⊢
    congr 2
    exact List.map_congr_left fun v hv => mm_v_app (h v hv)
  · rfl
  · rfl
  · simp only [mm_e, mm_okO] at h ⊢
    have : (fun j => mm_q (rho ++ t) (q.2.getD j none)) = fun j => mm_q rho (q.2.getD j none) := by
      funext j
      refine mm_q_app fun a ha => h a ?_
      rw [List.getD_eq_getElem?_getD] at ha
      cases hj : q.2[j]? with
      | none => rw [hj] at ha; simp at ha
      | some y => rw [hj] at ha; simp at ha; rw [← ha]; exact List.mem_of_getElem? hj
    rw [this]
theorem mm_w_at {rho : List Nat} {zt : Nat → Nat} {cT : Nat → ClassId} {cs : List mm_O} (hl : rho.length = cs.length) {a : Nat} {o : mm_O} (h : cs[a]? = some o) : (mm_w rho zt cT cs)[a]? = some (rho.getD a 0, mm_e rho zt cT o) := by
  have ha : a < cs.length := (List.getElem?_eq_some_iff.mp h).1
  have hr : rho[a]? = some (rho.getD a 0) := by
    rw [List.getD_eq_getElem?_getD, List.getElem?_eq_getElem (by omega)]; rfl
  simp only [mm_w, List.getElem?_zipWith, hr, h]
theorem mm_w_set {rho : List Nat} {zt : Nat → Nat} {cT : Nat → ClassId} {cs : List mm_O} (hl : rho.length = cs.length) {a : Nat} (ha : a < cs.length) (o : mm_O) : mm_w rho zt cT (cs.set a o) = (mm_w rho zt cT cs).set a (rho.getD a 0, mm_e rho zt cT o) := by
  have hr : rho[a]? = some (rho.getD a 0) := by
    rw [List.getD_eq_getElem?_getD, List.getElem?_eq_getElem (by omega)]; rfl
  have hw : (mm_w rho zt cT cs).length = cs.length := by simp [mm_w, hl]
  refine List.ext_getElem? fun k => ?_
  by_cases hk : k = a
  · subst hk
    rw [mm_w_at (by rw [List.length_set]; exact hl) (List.getElem?_set_self ha), List.getElem?_set_self (by omega)]
  · simp only [mm_w, List.getElem?_zipWith, List.getElem?_set_ne (Ne.symm hk)]
theorem mm_w_app {rho : List Nat} {zt : Nat → Nat} {cT : Nat → ClassId} {cs : List mm_O} (hl : rho.length = cs.length) (hok : ∀ o ∈ cs, mm_okO cs.length o) (q : Nat) (o : mm_O) : mm_w (rho ++ [q]) zt cT (cs ++ [o]) = mm_w rho zt cT cs ++ [(q, mm_e (rho ++ [q]) zt cT o)] := by
  unfold mm_w
  rw [List.zipWith_append hl]
  congr 1
  refine List.ext_getElem? fun k => ?_
  simp only [List.getElem?_zipWith]
  cases h1 : rho[k]? with
  | none => rfl
  | some a =>
    cases h2 : cs[k]? with
    | none => rfl
    | some o2 =>
      simp only []
      rw [mm_e_app (by rw [hl]; exact hok o2 (List.mem_of_getElem? h2))]
/-- the locals -/
def mm_ls (ls : Array Slot) (nL : Nat) (rho : List Nat) (zt : Nat → Nat) (L : mm_L) : Prop := L.length = nL ∧ ls.size = nL ∧ lv_wf ls ∧ ∀ (i : Nat) (v : mm_V), L[i]? = some (some v) → ls[i]? = some (.val (mm_v rho zt v))
def mm_as (rho : List Nat) (zt : Nat → Nat) (L : mm_L) : List (Nat × Value) := (List.range L.length).filterMap fun i => match L[i]? with
  | some (some v) => some (i, mm_v rho zt v)
  | _ => none
theorem mm_as_mem {rho : List Nat} {zt : Nat → Nat} {L : mm_L} {i : Nat} {v : mm_V} (h : L[i]? = some (some v)) : (i, mm_v rho zt v) ∈ mm_as rho zt L := by
  have hi : i < L.length := (List.getElem?_eq_some_iff.mp h).1
  exact List.mem_filterMap.mpr ⟨i, List.mem_range.mpr hi, by rw [h]⟩
theorem mm_as_of {rho : List Nat} {zt : Nat → Nat} {L : mm_L} {q : Nat × Value} (h : q ∈ mm_as rho zt L) : ∃ v, L[q.1]? = some (some v) ∧ q.2 = mm_v rho zt v := by
  obtain ⟨i, -, hi⟩ := List.mem_filterMap.mp h
  cases hL : L[i]? with
  | none => rw [hL] at hi; cases hi
  | some o =>
    cases o with
    | none => rw [hL] at hi; cases hi
    | some v => rw [hL] at hi; cases hi; exact ⟨v, hL, rfl⟩
theorem mm_ls.has {ls : Array Slot} {nL : Nat} {rho : List Nat} {zt : Nat → Nat} {L : mm_L} (h : mm_ls ls nL rho zt L) : lv_has ls nL (mm_as rho zt L) := by
  refine ⟨h.2.1, h.2.2.1, fun q hq => ?_⟩
  obtain ⟨v, h1, h2⟩ := mm_as_of hq
  rw [h2]
  exact h.2.2.2 _ _ h1
theorem mm_cat2 {rho : List Nat} {zt : Nat → Nat} {v : mm_V} (h : (mm_v rho zt v).category = 2) : ∃ x, v = vJ x := by
  obtain x | x | (_ | a) | j := v <;> simp [mm_v, Value.category] at h
  exact ⟨x, rfl⟩
theorem mm_ls.store {ls ls' : Array Slot} {nL : Nat} {rho : List Nat} {zt : Nat → Nat} {L L' : mm_L} {k : Nat} {v : mm_V} (h : mm_ls ls nL rho zt L) (hs : mm_set L k v = some L') (h' : lv_has ls' nL ((k, mm_v rho zt v) :: (mm_as rho zt L).filter (fun q => !(q.1 == k) && !(q.1 + 1 == k && q.2.category == 2)))) : mm_ls ls' nL rho zt L' ∧ k < nL := by
  unfold mm_set at hs
  split at hs
  · rename_i hk
    split at hs
    · cases hs
    · rename_i hj
      cases hs
      refine ⟨⟨by rw [List.length_set]; exact h.1, h'.1, h'.2.1, fun i w hi => ?_⟩, by rw [← h.1]; exact hk⟩
      by_cases hik : i = k
      · subst hik
        rw [List.getElem?_set_self hk] at hi
        cases hi
        exact h'.2.2 (i, _) List.mem_cons_self
      · rw [List.getElem?_set_ne (Ne.symm hik)] at hi
        refine h'.2.2 (i, _) (List.mem_cons_of_mem _ (List.mem_filter.mpr ⟨mm_as_mem hi, ?_⟩))
        simp only [Bool.and_eq_true, Bool.not_eq_true', beq_eq_false_iff_ne, ne_eq, Bool.and_eq_false_iff]
        refine ⟨hik, ?_⟩
        by_cases h1 : i + 1 = k
        · right
          intro h2
          obtain ⟨x, rfl⟩ := mm_cat2 h2
          apply hj
          have : k - 1 = i := by omega
          exact ⟨by omega, by rw [this, hi]; rfl⟩
        · exact Or.inl h1
  · cases hs
theorem mm_ls.grow {ls : Array Slot} {nL : Nat} {rho t : List Nat} {zt : Nat → Nat} {L : mm_L} (h : mm_ls ls nL rho zt L) (hok : ∀ v, some v ∈ L → mm_ok rho.length v) : mm_ls ls nL (rho ++ t) zt L :=
  ⟨h.1, h.2.1, h.2.2.1, fun i v hi => by rw [mm_v_app (hok v (List.mem_of_getElem? hi))]; exact h.2.2.2 i v hi⟩
theorem mm_map_app {rho t : List Nat} {zt : Nat → Nat} {st : List mm_V} (h : ∀ v ∈ st, mm_ok rho.length v) : st.map (mm_v (rho ++ t) zt) = st.map (mm_v rho zt) := List.map_congr_left fun v hv => mm_v_app (h v hv)
