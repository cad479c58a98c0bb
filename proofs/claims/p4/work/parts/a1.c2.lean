/-- a step that goes on, no cell touched -/
def c_lj (o : Option (Option cV)) : Bool := match o with
  | some (some (.inr (.inl _))) => true
  | _ => false
def c_sl (L : cL) (k : Nat) (v : cV) : Option cL := if k < L.length then (if k ≠ 0 ∧ c_lj L[k - 1]? = true then none else some (L.set k (some v))) else none
theorem c_lj_ok (o : Option (Option cV)) : mm_lj (o.map (Option.map kg)) = c_lj o := by
  obtain _ | _ | x | w | a | j := o <;> rfl
theorem c_sl_ok {L L' : cL} {k : Nat} {v : cV} (h : c_sl L k v = some L') : mm_set (kgL L) k (kg v) = some (kgL L') := by
  unfold c_sl at h
  unfold mm_set
  have e : mm_lj (kgL L)[k - 1]? = c_lj L[k - 1]? := by
    unfold kgL
    rw [List.getElem?_map]
    exact c_lj_ok _
  rw [e]
  split at h
  · rename_i hk
    split at h
    · cases h
    · rename_i hj
      cases h
      rw [if_pos (by simpa [kgL] using hk), if_neg hj]
      simp [kgL, List.map_set]
  · cases h
def c_s1 (i : Instr) (L : cL) (st : List cV) : Option (cL × List cV) := match i with
  | .sipush n => some (L, kI n :: st)
  | .aconst_null => some (L, kQ none :: st)
  | .getstatic j => some (L, kZ j :: st)
  | .iload k => (match L[k]? with
    | some (some (.inl x)) => some (L, kI x :: st)
    | _ => none)
  | .lload k => (match L[k]? with
    | some (some (.inr (.inl w))) => some (L, kJ w :: st)
    | _ => none)
  | .aload k => (match L[k]? with
    | some (some (.inr (.inr (.inl o)))) => some (L, kQ o :: st)
    | some (some (.inr (.inr (.inr j)))) => some (L, kZ j :: st)
    | _ => none)
  | .istore k => (match st with
    | .inl x :: r => (c_sl L k (kI x)).map fun L' => (L', r)
    | _ => none)
  | .astore k => (match st with
    | .inr (.inr (.inl o)) :: r => (c_sl L k (kQ o)).map fun L' => (L', r)
    | _ => none)
  | .iinc k n => (match L[k]? with
    | some (some (.inl x)) => (c_sl L k (kI (x + n))).map fun L' => (L', st)
    | _ => none)
  | .pop => (match st with
    | .inl _ :: r => some (L, r)
    | .inr (.inr (.inl _)) :: r => some (L, r)
    | _ => none)
  | .dup => (match st with
    | .inl x :: r => some (L, kI x :: kI x :: r)
    | .inr (.inr (.inl o)) :: r => some (L, kQ o :: kQ o :: r)
    | _ => none)
  | .iadd => (match st with
    | .inl y :: .inl x :: r => some (L, kI (x + y) :: r)
    | _ => none)
  | .isub => (match st with
    | .inl y :: .inl x :: r => some (L, kI (x - y) :: r)
    | _ => none)
  | .imul => (match st with
    | .inl y :: .inl x :: r => some (L, kI (x * y) :: r)
    | _ => none)
  | .ineg => (match st with
    | .inl x :: r => some (L, kI (-x) :: r)
    | _ => none)
  | .iand => (match st with
    | .inl y :: .inl x :: r => some (L, kI (n_and x y) :: r)
    | _ => none)
  | .ior => (match st with
    | .inl y :: .inl x :: r => some (L, kI (n_or x y) :: r)
    | _ => none)
  | .ishl => (match st with
    | .inl y :: .inl x :: r => some (L, kI (n_shl x y) :: r)
    | _ => none)
  | .ishr => (match st with
    | .inl y :: .inl x :: r => some (L, kI (n_shr x y) :: r)
    | _ => none)
  | .i2s => (match st with
    | .inl x :: r => some (L, kI (n_i2s x) :: r)
    | _ => none)
  | .l2i => (match st with
    | .inr (.inl w) :: r => some (L, kI (w.toInt32.toInt) :: r)
    | _ => none)
  | .lushr => (match st with
    | .inl y :: .inr (.inl x) :: r => some (L, kJ (x.toUInt64 >>> ((Int32.ofInt y).toInt64.toUInt64 &&& Int64.toUInt64 63)).toInt64 :: r)
    | _ => none)
  | _ => none
theorem c_getL {L : cL} {k : Nat} {v : cV} (h : L[k]? = some (some v)) : (kgL L)[k]? = some (some (kg v)) := by
  unfold kgL
  rw [List.getElem?_map, h]
  rfl
set_option maxHeartbeats 1000000 in
theorem c_s1_ok {Z : Nat → List Int32} {h : mm_H} {i : Instr} {L L' : cL} {st st' : List cV} (hh : c_s1 i L st = some (L', st')) : mm_s1 mm_K Z i (kgL L) (kgS st) h = some (kgL L', kgS st', h) := by
  unfold c_s1 at hh
  split at hh
  · cases hh; rfl
  · cases hh; rfl
  · cases hh; rfl
  · split at hh
    · rename_i x hx
      cases hh
      simp only [mm_s1, c_getL hx]
      rfl
    · cases hh
  · split at hh
    · rename_i x hx
      cases hh
      simp only [mm_s1, c_getL hx]
      rfl
    · cases hh
  · split at hh
    · rename_i x hx
      cases hh
      simp only [mm_s1, c_getL hx]
      rfl
    · rename_i x hx
      cases hh
      simp only [mm_s1, c_getL hx]
      rfl
    · cases hh
  · split at hh
    · obtain ⟨L2, h1, h2⟩ := Option.map_eq_some_iff.mp hh
      cases h2
      show (mm_set (kgL L) _ (kg (kI _))).map _ = _
      rw [c_sl_ok h1]
      rfl
    · cases hh
  · split at hh
    · obtain ⟨L2, h1, h2⟩ := Option.map_eq_some_iff.mp hh
      cases h2
      show (mm_set (kgL L) _ (kg (kQ _))).map _ = _
      rw [c_sl_ok h1]
      rfl
    · cases hh
  · split at hh
    · rename_i x hx
      obtain ⟨L2, h1, h2⟩ := Option.map_eq_some_iff.mp hh
      cases h2
      simp only [mm_s1, c_getL hx]
      have e := c_sl_ok h1
      simp only [kg, Int32.ofInt_add] at e
      simp only [kg]
      rw [e]
      rfl
    · cases hh
  all_goals first
    | (split at hh
       · cases hh; rfl
       · cases hh)
    | (split at hh
       · cases hh; rfl
       · cases hh; rfl
       · cases hh)
    | (split at hh
       · cases hh
         simp only [mm_s1, kgS, kg, List.map_cons, Int32.ofInt_add, Int32.ofInt_sub, Int32.ofInt_mul, Int32.ofInt_neg, n_and_ok, n_or, n_shl, n_shr, n_i2s, n_back]
       · cases hh)
    | cases hh
def c_Kt (Q : cA → cS → Prop) (G : List cV → cS → Prop) (rest : List cV) : cA → cS → Prop := fun r s => match r with
  | .inl none => G rest s
  | .inl (some v) => G (v :: rest) s
  | .inr e => Q (.inr e) s
/-- A STRETCH: what must hold ahead of it -/
def wc (Z : Nat → List Int32) (J : Nat → cL → List cV → cS → Prop) (C : Nat → List cV → cS → (cA → cS → Prop) → Prop) (Q : cA → cS → Prop) : List Instr → cL → List cV → cS → Prop
  | [], _, _, _ => False
  | i :: is, L, st, s => match i with
    | .goto t => J t.toNat L st s
    | .goto_w t => J t.toNat L st s
    | .if_icmp c t => (match st with
      | .inl y :: .inl x :: r => n_rng x ∧ n_rng y ∧ n_br c x y (J t.toNat L r s) (wc Z J C Q is L r s)
      | _ => False)
    | .ifCond c t => (match st with
      | .inl x :: r => n_rng x ∧ n_br c x 0 (J t.toNat L r s) (wc Z J C Q is L r s)
      | _ => False)
    | .ifnull t => (match st with
      | .inr (.inr (.inl o)) :: r => (o = none → J t.toNat L r s) ∧ (¬ o = none → wc Z J C Q is L r s)
      | _ => False)
    | .ifnonnull t => (match st with
      | .inr (.inr (.inl o)) :: r => (¬ o = none → J t.toNat L r s) ∧ (o = none → wc Z J C Q is L r s)
      | _ => False)
    | .if_acmp .eq t => (match st with
      | .inr (.inr (.inl q)) :: .inr (.inr (.inl p)) :: r => (p = q → J t.toNat L r s) ∧ (¬ p = q → wc Z J C Q is L r s)
      | _ => False)
    | .if_acmp .ne t => (match st with
      | .inr (.inr (.inl q)) :: .inr (.inr (.inl p)) :: r => (¬ p = q → J t.toNat L r s) ∧ (p = q → wc Z J C Q is L r s)
      | _ => False)
    | .lookupswitch d ps => (match st with
      | .inl x :: r => n_rng x ∧ n_sw (fun t => J t L r s) d.toNat x ps.toList
      | _ => False)
    | .invokestatic m => (mm_na m ≤ st.length ∧ st.length ≤ 12) ∧ C m (st.take (mm_na m)).reverse s (c_Kt Q (wc Z J C Q is L) (st.drop (mm_na m)))
    | .invokevirtual m => (mm_na m ≤ st.length ∧ st.length ≤ 12 ∧ ∃ a, (st.take (mm_na m)).reverse.head? = some (kQ (some a)) ∧ cT s a = mm_ci m ∧ mm_ci m < 10) ∧ C m (st.take (mm_na m)).reverse s (c_Kt Q (wc Z J C Q is L) (st.drop (mm_na m)))
    | .invokespecial _ => (match st with
      | .inr (.inr (.inl (some _))) :: r => r.length ≤ 12 ∧ wc Z J C Q is L r s
      | _ => False)
    | .checkcast e => st.length ≤ 12 ∧ 1 ≤ (cq s).1 ∧ 6 ≤ (cq s).2 ∧ Q (.inr e) (c_q s 1 6)
    | .return_ => st = [] ∧ Q (.inl none) s
    | .ireturn => (match st with
      | [.inl x] => Q (.inl (some (kI x))) s
      | _ => False)
    | .freturn => (match st with
      | [.inl x] => (x = 0 ∨ x = 1) ∧ Q (.inl (some (kI x))) s
      | _ => False)
    | .areturn => (match st with
      | [.inr (.inr (.inl o))] => Q (.inl (some (kQ o))) s
      | _ => False)
    | .fadd => (match st with
      | .inl y :: .inl x :: r => r.length ≤ 12 ∧ wc Z J C Q is L (kI (if c_w x < c_w y then c_w y else c_w x) :: r) s
      | _ => False)
    | .fsub => (match st with
      | .inl y :: .inl x :: r => r.length ≤ 12 ∧ wc Z J C Q is L (kI (if c_w y < c_w x then c_w y else c_w x) :: r) s
      | _ => False)
    | .invokeinterface ci k => (match st with
      | .inr (.inr (.inl o)) :: r => ∃ a, o = some a ∧ cT s a = ci ∧ (if ci < 10 ∧ c_kd ci k < 3 then (if c_kd ci k < 2 then wc Z J C Q is L (kI (s.1 a k) :: r) s else wc Z J C Q is L (kQ (s.2.1 a k) :: r) s) else False)
      | _ => False)
    | .multianewarray ci k => (match st with
      | .inl x :: .inr (.inr (.inl o)) :: r => ∃ a, o = some a ∧ cT s a = ci ∧ (if ci < 10 ∧ c_kd ci k < 2 then (if c_kd ci k = 1 then (x = 0 ∨ x = 1) ∧ wc Z J C Q is L r (c_uA s a k x) else wc Z J C Q is L r (c_uA s a k (c_w x))) else False)
      | .inr (.inr (.inl o2)) :: .inr (.inr (.inl o)) :: r => ∃ a, o = some a ∧ cT s a = ci ∧ (if ci < 10 ∧ c_kd ci k = 2 then wc Z J C Q is L r (c_uR s a k o2) else False)
      | _ => False)
    | .new ci => if ci < 10 then (1 ≤ (cq s).1 ∧ (c_kds.getD ci []).length ≤ (cq s).2) ∧ wc Z J C Q is L (kQ (some (cn s)) :: st) (c_new s ci (c_kds.getD ci []).length) else False
    | .newarray .int => (match st with
      | .inl x :: r => (0 ≤ x ∧ x < 100000) ∧ (1 ≤ (cq s).1 ∧ x.toNat ≤ (cq s).2) ∧ wc Z J C Q is L (kQ (some (cn s)) :: r) (c_new s 20 x.toNat)
      | _ => False)
    | .arraylength => (match st with
      | .inr (.inr (.inl o)) :: r => ∃ a, o = some a ∧ (cT s a = 20 ∨ cT s a = 30 ∨ cT s a = 31) ∧ wc Z J C Q is L (kI (cN s a) :: r) s
      | .inr (.inr (.inr j)) :: r => j < 2 ∧ wc Z J C Q is L (kI ((Z j).length) :: r) s
      | _ => False)
    | .iaload => (match st with
      | .inl i :: .inr (.inr (.inl o)) :: r => ∃ a, o = some a ∧ cT s a = 20 ∧ (0 ≤ i ∧ i < cN s a ∧ i < 100000) ∧ wc Z J C Q is L (kI (s.1 a i.toNat) :: r) s
      | .inl i :: .inr (.inr (.inr j)) :: r => j < 2 ∧ (0 ≤ i ∧ i < (Z j).length ∧ i < 100000) ∧ wc Z J C Q is L (kI ((Z j).getD i.toNat 0).toInt :: r) s
      | _ => False)
    | .iastore => (match st with
      | .inl x :: .inl i :: .inr (.inr (.inl o)) :: r => ∃ a, o = some a ∧ cT s a = 20 ∧ (0 ≤ i ∧ i < cN s a ∧ i < 100000) ∧ wc Z J C Q is L r (c_uA s a i.toNat (c_w x))
      | _ => False)
    | .aaload => (match st with
      | .inl i :: .inr (.inr (.inl o)) :: r => ∃ a j, o = some a ∧ cT s a = 30 + j ∧ j < 2 ∧ (0 ≤ i ∧ i < cN s a ∧ i < 100000) ∧ wc Z J C Q is L (kQ (s.2.1 a i.toNat) :: r) s
      | _ => False)
    | .aastore => (match st with
      | .inr (.inr (.inl o2)) :: .inl i :: .inr (.inr (.inl o)) :: r => ∃ a j, o = some a ∧ cT s a = 30 + j ∧ j < 2 ∧ (0 ≤ i ∧ i < cN s a ∧ i < 100000) ∧ (∀ b, o2 = some b → cT s b = mm_el j) ∧ wc Z J C Q is L r (c_uR s a i.toNat o2)
      | _ => False)
    | i => (match c_s1 i L st with
      | some (L', st') => wc Z J C Q is L' st' s
      | none => False)
