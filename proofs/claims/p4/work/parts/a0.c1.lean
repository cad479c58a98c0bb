/-! LAYER THREE: the class's methods. A value: a number, a long, null or a place, a constant row. A state: numbers (of a place's fields or elements), places (likewise), what lies at a place (0 to 9 an object of that class, 20 a row of ints, 30 and 31 rows of forms, of units), a row's length; how many cells there are; the room that is left -/
abbrev cV : Type := Int ⊕ (Int64 ⊕ (Option Nat ⊕ Nat))
abbrev cL : Type := List (Option cV)
abbrev cS : Type := (Nat → Nat → Int) × ((Nat → Nat → Option Nat) × ((Nat → Nat) × ((Nat → Nat) × (Nat × (Nat × Nat)))))
abbrev cA : Type := Option cV ⊕ Nat
abbrev kI (x : Int) : cV := .inl x
abbrev kJ (w : Int64) : cV := .inr (.inl w)
abbrev kQ (o : Option Nat) : cV := .inr (.inr (.inl o))
abbrev kZ (j : Nat) : cV := .inr (.inr (.inr j))
def cn (s : cS) : Nat := s.2.2.2.2.1
def cq (s : cS) : Nat × Nat := s.2.2.2.2.2
def cT (s : cS) (a : Nat) : Nat := if a < s.2.2.2.2.1 then s.2.2.1 a else 99
def cN (s : cS) (a : Nat) : Nat := s.2.2.2.1 a
def kg (v : cV) : mm_V := match v with
  | .inl x => vI (Int32.ofInt x)
  | .inr (.inl w) => vJ w
  | .inr (.inr (.inl o)) => vQ o
  | .inr (.inr (.inr j)) => vZ j
def kgL (L : cL) : mm_L := L.map (Option.map kg)
def kgS (st : List cV) : List mm_V := st.map kg
def kgA (r : cA) : mm_A := match r with
  | .inl o => .inl (o.map kg)
  | .inr e => .inr e
/-- which fields are numbers: 0 a number, 1 a boolean, 2 a place -/
def c_kds : List (List Nat) := [[2, 2, 2, 2, 2, 2, 0, 0], [2, 0], [2, 2, 2, 2, 2, 0, 2, 2, 0, 0, 2, 2], [0, 0, 0, 2, 2, 2], [2, 2, 2, 0, 0], [2, 2, 0, 2, 2, 0, 0, 0, 0, 0], [2, 0, 2, 2, 0, 1, 0], [2, 2, 2], [2, 0], [0, 0, 2, 2, 2, 2, 2, 2]]
def c_kd (ci k : Nat) : Nat := (c_kds.getD ci []).getD k 9
def c_fv (ci : Nat) (s : cS) (a k : Nat) : mm_V := if c_kd ci k < 2 then vI (Int32.ofInt (s.1 a k)) else vQ (s.2.1 a k)
def c_cell (X : Nat → mm_O) (s : cS) (a : Nat) : mm_O :=
  if s.2.2.1 a < 10 then .inl (s.2.2.1 a, (List.range (c_kds.getD (s.2.2.1 a) []).length).map (c_fv (s.2.2.1 a) s a))
  else if s.2.2.1 a = 20 then .inr (.inl (0, (List.range (s.2.2.2.1 a)).map fun i => Int32.ofInt (s.1 a i)))
  else if s.2.2.1 a = 30 ∨ s.2.2.1 a = 31 then .inr (.inr (.inr (s.2.2.1 a - 30, (List.range (s.2.2.2.1 a)).map (s.2.1 a))))
  else X a
def c_H (X : Nat → mm_O) (s : cS) : mm_H := ((List.range s.2.2.2.2.1).map (c_cell X s), s.2.2.2.2.2)
def c_uA (s : cS) (a i : Nat) (x : Int) : cS := (n_updA s.1 a i x, s.2)
def c_updR (R : Nat → Nat → Option Nat) (a k : Nat) (o : Option Nat) : Nat → Nat → Option Nat := fun b j => if b = a ∧ j = k then o else R b j
def c_uR (s : cS) (a k : Nat) (o : Option Nat) : cS := (s.1, c_updR s.2.1 a k o, s.2.2)
def c_up (g : Nat → Nat) (a x : Nat) : Nat → Nat := fun b => if b = a then x else g b
/-- a new cell of m slots -/
def c_new (s : cS) (t m : Nat) : cS := ((fun b j => if b = s.2.2.2.2.1 then 0 else s.1 b j), (fun b j => if b = s.2.2.2.2.1 then none else s.2.1 b j), c_up s.2.2.1 s.2.2.2.2.1 t, c_up s.2.2.2.1 s.2.2.2.2.1 m, s.2.2.2.2.1 + 1, (s.2.2.2.2.2.1 - 1, s.2.2.2.2.2.2 - m))
def c_q (s : cS) (c m : Nat) : cS := (s.1, s.2.1, s.2.2.1, s.2.2.2.1, s.2.2.2.2.1, (s.2.2.2.2.2.1 - c, s.2.2.2.2.2.2 - m))
def c_w (x : Int) : Int := (Int32.ofInt x).toInt
theorem c_w_id {x : Int} (h : n_rng x) : c_w x = x := n_toInt h
theorem c_w_rg (x : Int) : n_rng (c_w x) := n_rng_toInt _
theorem c_w_bk (x : Int) : Int32.ofInt (c_w x) = Int32.ofInt x := n_back _
section C1
variable {X : Nat → mm_O} {s : cS} {a : Nat}
theorem cT_lt {t : Nat} (h : cT s a = t) (ht : t ≠ 99) : a < s.2.2.2.2.1 ∧ s.2.2.1 a = t := by
  unfold cT at h
  split at h
  · rename_i hl; exact ⟨hl, h⟩
  · exact absurd h.symm ht
theorem c_get (h : a < s.2.2.2.2.1) : (c_H X s).1[a]? = some (c_cell X s a) := by
  show ((List.range s.2.2.2.2.1).map (c_cell X s))[a]? = _
  rw [List.getElem?_map, List.getElem?_range h]
  rfl
theorem c_obj {ci : Nat} (h : cT s a = ci) (hc : ci < 10) : (c_H X s).1[a]? = some (.inl (ci, (List.range (c_kds.getD ci []).length).map (c_fv ci s a))) := by
  obtain ⟨h1, h2⟩ := cT_lt h (by omega)
  rw [c_get h1]
  unfold c_cell
  rw [h2, if_pos hc]
theorem c_ints (h : cT s a = 20) : (c_H X s).1[a]? = some (.inr (.inl (0, (List.range (cN s a)).map fun i => Int32.ofInt (s.1 a i)))) := by
  obtain ⟨h1, h2⟩ := cT_lt h (by decide)
  rw [c_get h1]
  unfold c_cell
  rw [h2, if_neg (by decide), if_pos rfl]
  rfl
theorem c_refs {j : Nat} (h : cT s a = 30 + j) (hj : j < 2) : (c_H X s).1[a]? = some (.inr (.inr (.inr (j, (List.range (cN s a)).map (s.2.1 a))))) := by
  obtain ⟨h1, h2⟩ := cT_lt h (by omega)
  rw [c_get h1]
  unfold c_cell
  rw [h2, if_neg (by omega), if_neg (by omega), if_pos (by omega), show 30 + j - 30 = j from by omega]
  rfl
/-- a change at one place -/
theorem c_set {o : mm_O} {s' : cS} (h : a < s.2.2.2.2.1) (hn : s'.2.2.2.2 = s.2.2.2.2) (ho : c_cell X s' a = o) (hb : ∀ b, b ≠ a → c_cell X s' b = c_cell X s b) : ((c_H X s).1.set a o, (c_H X s).2) = c_H X s' := by
  unfold c_H
  rw [hn]
  refine Prod.ext ?_ rfl
  refine List.ext_getElem (by simp) (fun i h1 h2 => ?_)
  rw [List.getElem_set]
  simp only [List.getElem_map, List.getElem_range]
  split
  · rename_i hi
    rw [← hi, ho]
  · rename_i hi
    rw [hb i (Ne.symm hi)]
theorem c_cell_uA {x : Int} {i b : Nat} (hb : b ≠ a) : c_cell X (c_uA s a i x) b = c_cell X s b := by
  have e : n_updA s.1 a i x b = s.1 b := funext (fun j => n_ua_ne hb)
  unfold c_cell c_uA c_fv
  simp only [e]
theorem c_updR_ne {R : Nat → Nat → Option Nat} {k b j : Nat} {o : Option Nat} (hb : b ≠ a) : c_updR R a k o b j = R b j := by
  unfold c_updR
  rw [if_neg (fun h => hb h.1)]
theorem c_updR_eq {R : Nat → Nat → Option Nat} {k j : Nat} {o : Option Nat} : c_updR R a k o a j = if j = k then o else R a j := by
  unfold c_updR
  by_cases h : j = k
  · rw [if_pos ⟨rfl, h⟩, if_pos h]
  · rw [if_neg (fun q => h q.2), if_neg h]
theorem c_cell_uR {o : Option Nat} {k b : Nat} (hb : b ≠ a) : c_cell X (c_uR s a k o) b = c_cell X s b := by
  have e : c_updR s.2.1 a k o b = s.2.1 b := funext (fun j => c_updR_ne hb)
  unfold c_cell c_uR c_fv
  simp only [e]
theorem c_fld {ci k : Nat} (h : cT s a = ci) (hc : ci < 10) (hk : k < (c_kds.getD ci []).length) : mm_fld (c_H X s) a ci k = some (c_fv ci s a k) := by
  unfold mm_fld
  rw [c_obj h hc]
  simp only [if_true]
  rw [List.getElem?_map, List.getElem?_range hk]
  rfl
theorem c_putI {ci k : Nat} {x : Int} (h : cT s a = ci) (hc : ci < 10) (hk : k < (c_kds.getD ci []).length) (h2 : c_kd ci k < 2) : mm_put (c_H X s) a ci k (vI (Int32.ofInt x)) = some (c_H X (c_uA s a k x)) := by
  obtain ⟨g1, g2⟩ := cT_lt h (by omega)
  unfold mm_put
  rw [c_obj h hc]
  simp only [List.length_map, List.length_range]
  rw [if_pos ⟨trivial, hk⟩]
  refine congrArg some (c_set g1 rfl ?_ (fun b hb => c_cell_uA hb))
  have g3 : (c_uA s a k x).2.2.1 a = ci := g2
  unfold c_cell
  rw [g3, if_pos hc]
  congr 2
  refine List.ext_getElem (by simp) (fun i h1 h3 => ?_)
  rw [List.getElem_set]
  simp only [List.getElem_map, List.getElem_range]
  unfold c_fv c_uA
  simp only
  by_cases hi : k = i
  · subst hi
    rw [if_pos h2, if_pos rfl, n_ua_eq, if_pos rfl]
  · rw [if_neg hi, n_ua_eq, if_neg (Ne.symm hi)]
theorem c_putR {ci k : Nat} {o : Option Nat} (h : cT s a = ci) (hc : ci < 10) (hk : k < (c_kds.getD ci []).length) (h2 : ¬ c_kd ci k < 2) : mm_put (c_H X s) a ci k (vQ o) = some (c_H X (c_uR s a k o)) := by
  obtain ⟨g1, g2⟩ := cT_lt h (by omega)
  unfold mm_put
  rw [c_obj h hc]
  simp only [List.length_map, List.length_range]
  rw [if_pos ⟨trivial, hk⟩]
  refine congrArg some (c_set g1 rfl ?_ (fun b hb => c_cell_uR hb))
  have g3 : (c_uR s a k o).2.2.1 a = ci := g2
  unfold c_cell
  rw [g3, if_pos hc]
  congr 2
  refine List.ext_getElem (by simp) (fun i h1 h3 => ?_)
  rw [List.getElem_set]
  simp only [List.getElem_map, List.getElem_range]
  unfold c_fv c_uR
  simp only
  by_cases hi : k = i
  · subst hi
    rw [if_neg h2, if_pos rfl, c_updR_eq, if_pos rfl]
  · rw [if_neg hi, c_updR_eq, if_neg (Ne.symm hi)]
theorem c_iald {i : Int} (h : cT s a = 20) (h1 : 0 ≤ i) (h2 : i < cN s a) (h3 : i < 100000) : mm_iald (c_H X s) a 0 (Int32.ofInt i) = some (Int32.ofInt (s.1 a i.toNat)) := by
  unfold mm_iald mm_int
  rw [c_ints h]
  simp only [if_true, Option.bind_some, List.length_map, List.length_range]
  have e : (Int32.ofInt i).toInt = i := n_toInt ⟨by omega, by omega⟩
  unfold mm_ix
  rw [if_neg (by rw [Int32.lt_iff_toInt_lt, e]; show ¬ i < 0; omega)]
  have e2 : (Int32.ofInt i).toNatClampNeg = i.toNat := congrArg Int.toNat e
  rw [e2, if_pos (by omega), Option.bind_some, List.getElem?_map, List.getElem?_range (by omega)]
  rfl
theorem c_iast {i x : Int} (h : cT s a = 20) (h1 : 0 ≤ i) (h2 : i < cN s a) (h3 : i < 100000) : mm_iast (c_H X s) a 0 (Int32.ofInt i) (Int32.ofInt x) = some (c_H X (c_uA s a i.toNat x)) := by
  obtain ⟨g1, g2⟩ := cT_lt h (by decide)
  unfold mm_iast mm_int
  rw [c_ints h]
  simp only [if_true, Option.bind_some, List.length_map, List.length_range]
  have e : (Int32.ofInt i).toInt = i := n_toInt ⟨by omega, by omega⟩
  unfold mm_ix
  rw [if_neg (by rw [Int32.lt_iff_toInt_lt, e]; show ¬ i < 0; omega)]
  have e2 : (Int32.ofInt i).toNatClampNeg = i.toNat := congrArg Int.toNat e
  rw [e2, if_pos (by omega), Option.map_some]
  refine congrArg some (c_set g1 rfl ?_ (fun b hb => c_cell_uA hb))
  unfold c_cell
  show (if s.2.2.1 a < 10 then _ else if s.2.2.1 a = 20 then (.inr (.inl (0, _)) : mm_O) else _) = _
  rw [g2, if_neg (by decide), if_pos rfl]
  congr 3
  refine List.ext_getElem (by simp [cN]; rfl) (fun j h4 h5 => ?_)
  rw [List.getElem_set]
  simp only [List.getElem_map, List.getElem_range]
  unfold c_uA
  simp only
  by_cases hj : i.toNat = j
  · subst hj
    rw [if_pos rfl, n_ua_eq, if_pos rfl]
  · rw [if_neg hj, n_ua_eq, if_neg (Ne.symm hj)]
theorem c_aald {i : Int} {j : Nat} (h : cT s a = 30 + j) (hj : j < 2) (h1 : 0 ≤ i) (h2 : i < cN s a) (h3 : i < 100000) : mm_aald (c_H X s) a (Int32.ofInt i) = some (s.2.1 a i.toNat) := by
  unfold mm_aald mm_refs
  rw [c_refs h hj]
  simp only [hj, if_true, Option.bind_some, List.length_map, List.length_range]
  have e : (Int32.ofInt i).toInt = i := n_toInt ⟨by omega, by omega⟩
  unfold mm_ix
  rw [if_neg (by rw [Int32.lt_iff_toInt_lt, e]; show ¬ i < 0; omega)]
  have e2 : (Int32.ofInt i).toNatClampNeg = i.toNat := congrArg Int.toNat e
  rw [e2, if_pos (by omega), Option.bind_some, List.getElem?_map, List.getElem?_range (by omega)]
  rfl
theorem c_aast {i : Int} {j : Nat} {o : Option Nat} (h : cT s a = 30 + j) (hj : j < 2) (h1 : 0 ≤ i) (h2 : i < cN s a) (h3 : i < 100000) (ho : ∀ b, o = some b → cT s b = mm_el j) : mm_aast (c_H X s) a (Int32.ofInt i) o = some (c_H X (c_uR s a i.toNat o)) := by
  obtain ⟨g1, g2⟩ := cT_lt h (by omega)
  have hel : mm_el j < 10 := by
    obtain rfl | rfl : j = 0 ∨ j = 1 := by omega
    · decide
    · decide
  have hof : mm_of (c_H X s) (mm_el j) o = true := by
    unfold mm_of
    cases o with
    | none => rfl
    | some b =>
      simp only
      rw [c_obj (ho b rfl) hel]
      simp
  unfold mm_aast mm_refs
  rw [c_refs h hj]
  simp only [hj, if_true, Option.bind_some, List.length_map, List.length_range, hof]
  have e : (Int32.ofInt i).toInt = i := n_toInt ⟨by omega, by omega⟩
  unfold mm_ix
  rw [if_neg (by rw [Int32.lt_iff_toInt_lt, e]; show ¬ i < 0; omega)]
  have e2 : (Int32.ofInt i).toNatClampNeg = i.toNat := congrArg Int.toNat e
  rw [e2, if_pos (by omega), Option.map_some]
  refine congrArg some (c_set g1 rfl ?_ (fun b hb => c_cell_uR hb))
  unfold c_cell
  show (if s.2.2.1 a < 10 then _ else if s.2.2.1 a = 20 then _ else if s.2.2.1 a = 30 ∨ s.2.2.1 a = 31 then (.inr (.inr (.inr (s.2.2.1 a - 30, _))) : mm_O) else _) = _
  rw [g2, if_neg (by omega), if_neg (by omega), if_pos (by omega), show 30 + j - 30 = j from by omega]
  congr 4
  refine List.ext_getElem (by simp [cN]; rfl) (fun i' h4 h5 => ?_)
  rw [List.getElem_set]
  simp only [List.getElem_map, List.getElem_range]
  unfold c_uR
  simp only
  by_cases hj2 : i.toNat = i'
  · subst hj2
    rw [if_pos rfl, c_updR_eq, if_pos rfl]
  · rw [if_neg hj2, c_updR_eq, if_neg (Ne.symm hj2)]
theorem c_len {n : Nat} (h : cT s a = 20 ∨ cT s a = 30 ∨ cT s a = 31) (hn : cN s a = n) : mm_len (c_H X s) a = some (Int32.ofInt n) := by
  unfold mm_len
  rcases h with h | h | h
  · rw [c_ints h]
    simp only [List.length_map, List.length_range, hn]
    rfl
  · rw [c_refs (j := 0) h (by decide)]
    simp only [List.length_map, List.length_range, hn]
    rfl
  · rw [c_refs (j := 1) h (by decide)]
    simp only [List.length_map, List.length_range, hn]
    rfl
theorem c_new_ok {t m : Nat} {o : mm_O} (h1 : 1 ≤ (cq s).1) (h2 : m ≤ (cq s).2) (ho : c_cell X (c_new s t m) s.2.2.2.2.1 = o) : mm_new (c_H X s) o m = some (c_H X (c_new s t m)) := by
  unfold mm_new
  rw [if_pos ⟨h1, h2⟩]
  refine congrArg some (Prod.ext ?_ rfl)
  show (List.range s.2.2.2.2.1).map (c_cell X s) ++ [o] = (List.range (s.2.2.2.2.1 + 1)).map (c_cell X (c_new s t m))
  rw [List.range_succ, List.map_append, List.map_singleton, ho]
  congr 1
  refine List.map_congr_left (fun b hb => ?_)
  have hb : b < s.2.2.2.2.1 := List.mem_range.mp hb
  have e1 : (c_new s t m).2.2.1 b = s.2.2.1 b := by show c_up s.2.2.1 s.2.2.2.2.1 t b = _; unfold c_up; rw [if_neg (by omega)]
  have e2 : (c_new s t m).2.2.2.1 b = s.2.2.2.1 b := by show c_up s.2.2.2.1 s.2.2.2.2.1 m b = _; unfold c_up; rw [if_neg (by omega)]
  have e3 : ∀ j, (c_new s t m).1 b j = s.1 b j := fun j => by show (if b = s.2.2.2.2.1 then _ else _) = _; rw [if_neg (by omega)]
  have e4 : (c_new s t m).2.1 b = s.2.1 b := funext (fun j => by show (if b = s.2.2.2.2.1 then _ else _) = _; rw [if_neg (by omega)])
  unfold c_cell c_fv
  simp only [e1, e2, e3, e4]
theorem c_fresh : ∀ ci : Nat, ci < 10 → mm_fresh (mm_K ci) = (List.range (c_kds.getD ci []).length).map (fun k => if c_kd ci k < 2 then vI (Int32.ofInt 0) else vQ none) ∧ (mm_K ci).length = (c_kds.getD ci []).length := by
  intro ci hci
  obtain rfl | rfl | rfl | rfl | rfl | rfl | rfl | rfl | rfl | rfl : ci = 0 ∨ ci = 1 ∨ ci = 2 ∨ ci = 3 ∨ ci = 4 ∨ ci = 5 ∨ ci = 6 ∨ ci = 7 ∨ ci = 8 ∨ ci = 9 := by omega
  all_goals exact ⟨rfl, rfl⟩
theorem c_newO {ci : Nat} (hc : ci < 10) (h1 : 1 ≤ (cq s).1) (h2 : (c_kds.getD ci []).length ≤ (cq s).2) : mm_new (c_H X s) (.inl (ci, mm_fresh (mm_K ci))) (mm_K ci).length = some (c_H X (c_new s ci (c_kds.getD ci []).length)) := by
  obtain ⟨e1, e2⟩ := c_fresh ci hc
  rw [e1, e2]
  refine c_new_ok h1 h2 ?_
  have e3 : (c_new s ci (c_kds.getD ci []).length).2.2.1 s.2.2.2.2.1 = ci := by show c_up s.2.2.1 s.2.2.2.2.1 ci s.2.2.2.2.1 = _; unfold c_up; rw [if_pos rfl]
  unfold c_cell
  rw [e3, if_pos hc]
  congr 2
  refine List.map_congr_left (fun k _ => ?_)
  unfold c_fv c_new
  simp
theorem c_newI {m : Nat} (h1 : 1 ≤ (cq s).1) (h2 : m ≤ (cq s).2) : mm_new (c_H X s) (.inr (.inl (0, List.replicate m 0))) m = some (c_H X (c_new s 20 m)) := by
  refine c_new_ok h1 h2 ?_
  have e3 : (c_new s 20 m).2.2.1 s.2.2.2.2.1 = 20 := by show c_up s.2.2.1 s.2.2.2.2.1 20 s.2.2.2.2.1 = _; unfold c_up; rw [if_pos rfl]
  have e4 : (c_new s 20 m).2.2.2.1 s.2.2.2.2.1 = m := by show c_up s.2.2.2.1 s.2.2.2.2.1 m s.2.2.2.2.1 = _; unfold c_up; rw [if_pos rfl]
  unfold c_cell
  rw [e3, e4, if_neg (by decide), if_pos rfl]
  congr 3
  refine List.ext_getElem (by simp) (fun i h5 h6 => ?_)
  simp only [List.getElem_map, List.getElem_range, List.getElem_replicate]
  unfold c_new
  simp
end C1
