/-! LAYER TWO: the reference's methods over whole numbers. A value: a number (its 32 bits), a long, a place. A state: the reference's fields, its arrays. -/
abbrev nV : Type := Int ⊕ (Int64 ⊕ Nat)
abbrev nS : Type := (Nat → Int) × (Nat → Nat → Int)
abbrev nL : Type := List (Option nV)
abbrev nA : Type := Option Int
abbrev xI (x : Int) : nV := .inl x
abbrev xR (a : Nat) : nV := .inr (.inr a)
abbrev xJ (w : Int64) : nV := .inr (.inl w)
def ng (v : nV) : mm_V := match v with
  | .inl x => vI (Int32.ofInt x)
  | .inr (.inl w) => vJ w
  | .inr (.inr a) => vR a
def ngL (L : nL) : mm_L := L.map (Option.map ng)
def ngS (st : List nV) : List mm_V := st.map ng
def ngA (r : nA) : mm_A := .inl (r.map fun x => vI (Int32.ofInt x))
/-- the fields that are arrays, and where these lie; lengths and kinds by place -/
def n_refs : List Nat := [0, 0, 0, 0, 0, 26, 27, 28, 29, 30, 31, 32, 33, 34, 35, 36, 37, 0, 0, 38, 39, 40, 41, 0, 0, 0, 42, 43, 0, 0, 0, 0, 0, 0, 0, 44, 45, 46, 47, 48, 49, 50, 51, 0, 52, 53, 0, 54, 0, 0, 0, 0, 0, 0, 55, 56, 57]
def n_lens : List Nat := [120, 16, 16, 16, 16, 3200, 16, 800, 800, 64, 1920, 16, 1300, 1300, 1300, 1300, 9, 9, 300, 300, 300, 260, 120, 120, 70, 70, 16, 16, 600, 120, 24, 24]
def n_kds : List Nat := [2, 0, 0, 0, 0, 1, 0, 0, 0, 0, 2, 0, 0, 0, 0, 0, 0, 0, 0, 0, 0, 1, 0, 0, 0, 0, 0, 0, 1, 0, 0, 0]
def n_ref (k : Nat) : Nat := n_refs.getD k 0
def n_len (a : Nat) : Nat := n_lens.getD (a - 26) 0
def n_kd (a : Nat) : Nat := n_kds.getD (a - 26) 0
def n_cell (A : Nat → Nat → Int) (a : Nat) : mm_O := .inr (.inl (n_kd a, (List.range (n_len a)).map fun i => Int32.ofInt (A a i)))
def n_fv (S : Nat → Int) (k : Nat) : mm_V := if n_ref k = 0 then vI (Int32.ofInt (S k)) else vR (n_ref k)
def n_H (F T : List mm_O) (q : Nat × Nat) (s : nS) : mm_H := (F ++ (.inl (10, (List.range 57).map (n_fv s.1)) :: (List.range 32).map (fun j => n_cell s.2 (26 + j))) ++ T, q)
def n_upd (S : Nat → Int) (k : Nat) (x : Int) : Nat → Int := fun j => if j = k then x else S j
def n_updA (A : Nat → Nat → Int) (a i : Nat) (x : Int) : Nat → Nat → Int := fun b j => if b = a ∧ j = i then x else A b j
def n_rng (x : Int) : Prop := -2147483648 ≤ x ∧ x < 2147483648
section N1
variable {F T : List mm_O} {q : Nat × Nat} {s : nS}
theorem n_get25 (hF : F.length = 25) : (n_H F T q s).1[25]? = some (.inl (10, (List.range 57).map (n_fv s.1))) := by
  show (F ++ (_ :: _) ++ T)[25]? = _
  rw [List.append_assoc, List.getElem?_append_right (by omega), hF]
  rfl
theorem n_geta (hF : F.length = 25) {a : Nat} (h1 : 26 ≤ a) (h2 : a < 58) : (n_H F T q s).1[a]? = some (n_cell s.2 a) := by
  show (F ++ (_ :: _) ++ T)[a]? = _
  obtain ⟨j, rfl⟩ : ∃ j, a = 26 + j := ⟨a - 26, by omega⟩
  rw [List.append_assoc, List.getElem?_append_right (by omega), hF, List.cons_append, show 26 + j - 25 = j + 1 from by omega, List.getElem?_cons_succ, List.getElem?_append_left (by simp; omega), List.getElem?_map, List.getElem?_range (by omega)]
  rfl
end N1
section N2
variable {F T : List mm_O} {q : Nat × Nat} {s : nS}
theorem n_fld (hF : F.length = 25) {k : Nat} (hk : k < 57) : mm_fld (n_H F T q s) 25 10 k = some (n_fv s.1 k) := by
  unfold mm_fld
  rw [n_get25 hF]
  simp only [if_true]
  rw [List.getElem?_map, List.getElem?_range hk]
  rfl
theorem n_fv_upd {S : Nat → Int} {k : Nat} {x : Int} (h0 : n_ref k = 0) : ((List.range 57).map (n_fv S)).set k (vI (Int32.ofInt x)) = (List.range 57).map (n_fv (n_upd S k x)) := by
  refine List.ext_getElem (by simp) (fun i h1 h2 => ?_)
  rw [List.getElem_set]
  simp only [List.getElem_map, List.getElem_range]
  by_cases hi : k = i
  · subst hi
    simp [n_fv, n_upd, h0]
  · rw [if_neg hi]
    simp [n_fv, n_upd, Ne.symm hi]
theorem n_put (hF : F.length = 25) {k : Nat} {x : Int} (hk : k < 57) (h0 : n_ref k = 0) : mm_put (n_H F T q s) 25 10 k (vI (Int32.ofInt x)) = some (n_H F T q (n_upd s.1 k x, s.2)) := by
  unfold mm_put
  rw [n_get25 hF]
  simp only [List.length_map, List.length_range]
  rw [if_pos ⟨trivial, hk⟩, n_fv_upd h0]
  refine congrArg some (Prod.ext ?_ rfl)
  show (F ++ (_ :: _) ++ T).set 25 _ = F ++ (_ :: _) ++ T
  rw [List.append_assoc, List.set_append_right _ _ (by omega), hF, List.append_assoc]
  rfl
theorem n_toInt {x : Int} (h : n_rng x) : (Int32.ofInt x).toInt = x := Int32.toInt_ofInt_of_le (by have := h.1; omega) (by have := h.2; omega)
theorem n_ix {i : Int} {n : Nat} (h0 : 0 ≤ i) (h1 : i < n) (hn : n ≤ 134217728) : mm_ix (Int32.ofInt i) n = some i.toNat := by
  have e : (Int32.ofInt i).toInt = i := n_toInt ⟨by omega, by omega⟩
  unfold mm_ix
  rw [if_neg (by rw [Int32.lt_iff_toInt_lt, e]; show ¬ i < 0; omega)]
  have e2 : (Int32.ofInt i).toNatClampNeg = i.toNat := congrArg Int.toNat e
  rw [e2, if_pos (by omega)]
theorem n_len_le : ∀ a : Nat, n_len a ≤ 134217728 := by
  intro a
  unfold n_len
  by_cases h : a - 26 < 32
  · have : ∀ j : Nat, j < 32 → n_lens.getD j 0 ≤ 134217728 := by decide
    exact this _ h
  · rw [List.getD_eq_getElem?_getD, List.getElem?_eq_none (by show 32 ≤ a - 26; omega)]
    decide
theorem n_int (hF : F.length = 25) {a : Nat} (h1 : 26 ≤ a) (h2 : a < 58) {kd : Nat} (hk : n_kd a = kd) : mm_int (n_H F T q s) a kd = some ((List.range (n_len a)).map fun i => Int32.ofInt (s.2 a i)) := by
  unfold mm_int
  rw [n_geta hF h1 h2]
  simp only [n_cell, hk, if_true]
theorem n_iald (hF : F.length = 25) {a : Nat} (h1 : 26 ≤ a) (h2 : a < 58) {kd : Nat} (hk : n_kd a = kd) {i : Int} (h3 : 0 ≤ i ∧ i < n_len a) : mm_iald (n_H F T q s) a kd (Int32.ofInt i) = some (Int32.ofInt (s.2 a i.toNat)) := by
  unfold mm_iald
  rw [n_int hF h1 h2 hk, Option.bind_some, List.length_map, List.length_range, n_ix h3.1 h3.2 (n_len_le a), Option.bind_some, List.getElem?_map, List.getElem?_range (by omega)]
  rfl
theorem n_iast (hF : F.length = 25) {a : Nat} (h1 : 26 ≤ a) (h2 : a < 58) {kd : Nat} (hk : n_kd a = kd) {i x : Int} (h3 : 0 ≤ i ∧ i < n_len a) : mm_iast (n_H F T q s) a kd (Int32.ofInt i) (Int32.ofInt x) = some (n_H F T q (s.1, n_updA s.2 a i.toNat x)) := by
  unfold mm_iast
  rw [n_int hF h1 h2 hk, Option.bind_some, List.length_map, List.length_range, n_ix h3.1 h3.2 (n_len_le a), Option.map_some]
  refine congrArg some (Prod.ext ?_ rfl)
  have e1 : ((List.range (n_len a)).map fun i => Int32.ofInt (s.2 a i)).set i.toNat (Int32.ofInt x) = (List.range (n_len a)).map fun j => Int32.ofInt (n_updA s.2 a i.toNat x a j) := by
    refine List.ext_getElem (by simp) (fun j g1 g2 => ?_)
    rw [List.getElem_set]
    simp only [List.getElem_map, List.getElem_range]
    by_cases hj : i.toNat = j
    · subst hj
      simp [n_updA]
    · rw [if_neg hj]
      simp [n_updA, Ne.symm hj]
  rw [e1]
  show (F ++ (_ :: _) ++ T).set a _ = F ++ (_ :: _) ++ T
  obtain ⟨j, rfl⟩ : ∃ j, a = 26 + j := ⟨a - 26, by omega⟩
  rw [List.append_assoc, List.set_append_right _ _ (by omega), hF, List.append_assoc, show 26 + j - 25 = j + 1 from by omega]
  congr 1
  rw [List.cons_append, List.set_cons_succ, List.set_append_left _ _ (by simp; omega)]
  congr 2
  refine List.ext_getElem (by simp) (fun k g1 g2 => ?_)
  rw [List.getElem_set]
  simp only [List.getElem_map, List.getElem_range]
  by_cases hk2 : j = k
  · subst hk2
    rw [if_pos rfl]
    simp only [n_cell, hk]
  · rw [if_neg hk2]
    have e3 : (fun j' => Int32.ofInt (n_updA s.2 (26 + j) i.toNat x (26 + k) j')) = fun j' => Int32.ofInt (s.2 (26 + k) j') := by
      funext j'
      unfold n_updA
      rw [if_neg (by omega)]
    unfold n_cell
    rw [e3]
end N2
