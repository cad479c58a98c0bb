/-! A ROW IS COPIED, in the class's terms -/
def c_cp (s : cS) (a b n : Nat) : cS := ((fun x j => if x = b then (if j < n then s.1 a j else s.1 b j) else s.1 x j), s.2)
section E6
variable {X : Nat → mm_O} {Z : Nat → List Int32} {d n : Nat} {s s' S t : cS} {a b i u f : Nat} {k : Int}
theorem c_int (h : cT s a = 20) : mm_int (c_H X s) a 0 = some ((List.range (cN s a)).map fun i => Int32.ofInt (s.1 a i)) := by
  unfold mm_int
  rw [c_ints h]
  simp only [if_true]
theorem mm_cpy_get {xs ys : List Int32} {j : Nat} (h : j < (mm_cpy xs ys n).length) : (mm_cpy xs ys n)[j] = if j < n then xs.getD j 0 else ys.getD j 0 := by
  have h2 : j < ys.length := by rw [mm_cpy_len] at h; exact h
  refine Option.some.inj ((List.getElem?_eq_getElem h).symm.trans ?_)
  show ((List.range ys.length).map fun j => if j < n then xs.getD j 0 else ys.getD j 0)[j]? = _
  rw [List.getElem?_map, List.getElem?_range h2]
  rfl
theorem c_cp_H (hb : cT s b = 20) (hn : n ≤ cN s a) : ((c_H X s).1.set b (.inr (.inl (0, mm_cpy ((List.range (cN s a)).map fun i => Int32.ofInt (s.1 a i)) ((List.range (cN s b)).map fun i => Int32.ofInt (s.1 b i)) n))), (c_H X s).2) = c_H X (c_cp s a b n) := by
  obtain ⟨g1, g2⟩ := cT_lt hb (by decide)
  refine c_set g1 rfl ?_ (fun x hx => ?_)
  · unfold c_cell
    show (if s.2.2.1 b < 10 then _ else if s.2.2.1 b = 20 then (.inr (.inl (0, _)) : mm_O) else _) = _
    rw [g2, if_neg (by decide), if_pos rfl]
    congr 3
    refine List.ext_getElem (by simp [mm_cpy, cN, c_cp]) (fun j h4 h5 => ?_)
    have hj : j < cN s b := by simpa [c_cp, cN] using h4
    rw [mm_cpy_get]
    unfold c_cp
    simp only [List.getElem_map, List.getElem_range, if_true]
    by_cases hjn : j < n
    · rw [if_pos hjn, if_pos hjn, List.getD_eq_getElem?_getD, List.getElem?_map, List.getElem?_range (by omega)]
      rfl
    · rw [if_neg hjn, if_neg hjn, List.getD_eq_getElem?_getD, List.getElem?_map, List.getElem?_range hj]
      rfl
  · have e : (c_cp s a b n).1 x = s.1 x := funext (fun j => if_neg hx)
    unfold c_cell c_fv
    show _ = _
    rw [e]
    rfl
theorem c_RP_cp (h : c_ok s) (hb : cT s b = 20) (h25 : 25 ≤ b) : c_RP s (c_cp s a b n) 0 0 := by
  obtain ⟨n1, n2, n3, n4, n5, n6, n7, n8, n9, n10⟩ := c_dy h h25
  have e : ∀ y i, y ≠ b → (c_cp s a b n).1 y i = s.1 y i := fun y i hy => if_neg hy
  refine ⟨c_ok_A h rfl (fun y i => ?_) (fun y c hy hc => ?_) (c_sA_of h.2.2.2.1 (e 3 1 (Ne.symm n6)) (e 5 1 (Ne.symm n7)) (e 7 5 (Ne.symm n8)) (e 7 8 (Ne.symm n8)) (e 7 9 (Ne.symm n8)) (e 16 3 (Ne.symm n9)) rfl), c_E_2 rfl, ⟨e 1 1 (Ne.symm n4), fun i => e 2 i (Ne.symm n5), e 0 6 (Ne.symm n3)⟩, c_bd0⟩
  · show n_rng (if y = b then (if i < n then s.1 a i else s.1 b i) else s.1 y i)
    split
    · split
      · exact h.1 _ _
      · exact h.1 _ _
    · exact h.1 _ _
  · rw [e y 1 (fun q => by rw [q, hb] at hy; exact absurd hy (by decide))]
    exact ((h.2.2.1 y).1 hy c hc).2
/-- Arrays.copyOf, to a shorter row -/
theorem cg80 (hd : 6 ≤ d) (h : c_ok s) (ha : cT s a = 20) (hk : 0 ≤ k ∧ k < cN s a ∧ k ≤ 600) (hq : 1 ≤ (cq s).1 ∧ k.toNat ≤ (cq s).2) : CG X Z d 80 [kQ (some a), kI k] s (fun r s' => (∃ p, r = .inl (some (kQ (some p))) ∧ cT s' p = 20 ∧ 25 ≤ p) ∧ c_RP s s' 1 k.toNat ∧ (∀ x i, cT s x ≠ 99 → s'.1 x i = s.1 x i ∧ s'.2.1 x i = s.2.1 x i)) := by
  have h59 : 59 ≤ cn s := h.2.1.2.2.2
  have hl := (h.2.2.1 a).2.1 ha
  have q1 := c_RP_new h (t := 20) (m := k.toNat) (Or.inr rfl) (fun _ => by omega) hq
  have ta := c_new_T (t := 20) (m := k.toNat) ha (by decide)
  have tb : cT (c_new s 20 k.toNat) (cn s) = 20 := by rw [c_T_new, if_pos rfl]
  have na : cN (c_new s 20 k.toNat) a = cN s a := by rw [c_N_new, if_neg (c_lt_n ha (by decide))]
  have nb : cN (c_new s 20 k.toNat) (cn s) = k.toNat := by rw [c_N_new, if_pos rfl]
  have q2 := c_RP_cp (a := a) (n := k.toNat) q1.1 tb (by omega)
  have oth : ∀ x i, cT s x ≠ 99 → (c_cp (c_new s 20 k.toNat) a (cn s) k.toNat).1 x i = s.1 x i ∧ (c_cp (c_new s 20 k.toNat) a (cn s) k.toNat).2.1 x i = s.2.1 x i := fun x i hx => by
    have hne : x ≠ cn s := c_lt_n rfl hx
    exact ⟨(if_neg hne).trans (c_new_A hne), c_new_R hne⟩
  refine c_G_of (L := [some (kQ (some a)), some (kI k), none]) (by rw [nl80]; exact Nat.le_of_ble_eq_true rfl) (by rw [nl80]; rfl) ?_
  refine c_at nb80_0 hd rfl ⟨a, rfl, Or.inl ha, ⟨by omega, by omega⟩, ⟨by omega, by omega⟩, fun _ => ?_, fun z => absurd (show k = (cN s a : Int) from z) (by omega)⟩
  refine c_at nb80_14 hd rfl ⟨⟨hk.1, by omega⟩, hq, a, rfl, Or.inl ta, by simp, ?_⟩
  show CP X Z d 80 28 [some (kQ (some a)), some (kI k), some (kQ (some (cn s)))] [kI (if c_w k < c_w (cN (c_new s 20 k.toNat) a : Int) then c_w k else c_w (cN (c_new s 20 k.toNat) a : Int)), kI 0, kQ (some (cn s)), kI 0, kQ (some a)] (c_new s 20 k.toNat) _
  rw [na, c_w_id (x := k) ⟨by omega, by omega⟩, c_w_id (x := (cN s a : Int)) ⟨by omega, by omega⟩, if_pos (by omega)]
  have e : (Int32.ofInt k).toInt = k := n_toInt ⟨by omega, by omega⟩
  have e2 : (Int32.ofInt k).toNatClampNeg = k.toNat := congrArg Int.toNat e
  refine m80_c (L := kgL [some (kQ (some a)), some (kI k), some (kQ (some (cn s)))]) (r := []) (a0 := a) (a1 := cn s) (n := Int32.ofInt k) hd (by simp) (c_int ta) (c_int tb) (by rw [Int32.lt_iff_toInt_lt, e]; show ¬ k < 0; omega) (by rw [e2, List.length_map, List.length_range, na]; omega) (by rw [e2, List.length_map, List.length_range, nb]; omega) ?_
  rw [e2, c_cp_H tb (by rw [na]; omega)]
  exact c_at (st := []) nb80_31 hd rfl ⟨⟨cn s, rfl, tb, by omega⟩, c_RP_tr q1 q2, oth⟩
end E6
