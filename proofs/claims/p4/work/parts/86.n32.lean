/-! HOW MANY UNITS STAND IN THE IMAGE'S ORDER -/
def n_cnt (P : Nat → Bool) : Nat → Int
  | 0 => 0
  | k + 1 => n_cnt P k + (if P k = true then 1 else 0)
theorem n_cnt_le (P : Nat → Bool) : ∀ n : Nat, 0 ≤ n_cnt P n ∧ n_cnt P n ≤ n
  | 0 => ⟨Int.le_refl _, Int.le_refl _⟩
  | k + 1 => by
    have := n_cnt_le P k
    unfold n_cnt
    split <;> constructor <;> omega
theorem n_cnt_lt {P : Nat → Bool} {u : Nat} (hu : P u = false) : ∀ n : Nat, u < n → n_cnt P n < n
  | 0, h => absurd h (by omega)
  | k + 1, h => by
    have h1 := n_cnt_le P k
    unfold n_cnt
    by_cases hk : u = k
    · subst hk
      rw [hu, if_neg (by decide)]
      omega
    · have := n_cnt_lt hu k (by omega)
      split <;> omega
theorem n_cnt_cg {P Q : Nat → Bool} : ∀ n : Nat, (∀ i, i < n → P i = Q i) → n_cnt P n = n_cnt Q n
  | 0, _ => rfl
  | k + 1, h => by
    unfold n_cnt
    rw [n_cnt_cg k (fun i hi => h i (by omega)), h k (by omega)]
theorem n_cnt_add {P Q : Nat → Bool} {u : Nat} (hp : P u = false) (hq : Q u = true) (he : ∀ i, i ≠ u → Q i = P i) : ∀ n : Nat, u < n → n_cnt Q n = n_cnt P n + 1
  | 0, h => absurd h (by omega)
  | k + 1, h => by
    unfold n_cnt
    by_cases hk : u = k
    · subst hk
      rw [hp, hq, n_cnt_cg u (fun i hi => he i (by omega)), if_pos rfl, if_neg (by decide)]
      omega
    · rw [n_cnt_add hp hq he k (by omega), he k (fun h => hk h.symm)]
      omega
theorem n_lat_cg {P Q : Nat → Bool} : ∀ n : Nat, (∀ i, i < n → P i = Q i) → n_lat P n = n_lat Q n
  | 0, _ => rfl
  | k + 1, h => by
    unfold n_lat
    rw [n_lat_cg k (fun i hi => h i (by omega)), h k (by omega)]
/-- a unit is put at the order's end -/
def n_ord (s : nS) (f : Int) : nS := (n_upd s.1 43 (s.1 43 + 1), n_updA s.2 52 (s.1 43).toNat f)
theorem n_ord_st {s : nS} {f u : Int} (h : 0 ≤ s.1 43) : n_stands (n_ord s f) u = if f = u then s.1 43 else n_stands s u := by
  have e43 : (n_ord s f).1 43 = s.1 43 + 1 := rfl
  have e52 : ∀ i, (n_ord s f).2 52 i = if i = (s.1 43).toNat then f else s.2 52 i := fun i => by
    show n_updA s.2 52 _ f 52 i = _
    rw [n_ua_eq]
  unfold n_stands
  rw [e43, show (s.1 43 + 1).toNat = (s.1 43).toNat + 1 from by omega]
  show (if decide ((n_ord s f).2 52 (s.1 43).toNat = u) = true then _ else _) = _
  rw [e52, if_pos rfl]
  by_cases hq : f = u
  · rw [if_pos hq, if_pos (decide_eq_true hq)]
    omega
  · rw [if_neg hq, if_neg (fun z => hq (of_decide_eq_true z))]
    refine n_lat_cg _ (fun i hi => ?_)
    rw [e52, if_neg (by omega)]
