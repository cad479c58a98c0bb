def n_cmp (c : Jvm.ClassFile.Cond) (x y : Int) : Prop := match c with
  | .eq => x = y
  | .ne => ¬ x = y
  | .lt => x < y
  | .ge => y ≤ x
  | .gt => y < x
  | .le => x ≤ y
theorem n_cmp_iff {c : Jvm.ClassFile.Cond} {x y : Int} (hx : n_rng x) (hy : n_rng y) : mm_cmp c (Int32.ofInt x) (Int32.ofInt y) ↔ n_cmp c x y := by
  have ex := n_toInt hx
  have ey := n_toInt hy
  have hq : Int32.ofInt x = Int32.ofInt y ↔ x = y := by rw [← Int32.toInt_inj, ex, ey]
  cases c <;> simp only [mm_cmp, n_cmp, hq, Int32.lt_iff_toInt_lt, Int32.le_iff_toInt_le, ex, ey]
theorem n_z : Int32.ofInt 0 = 0 := by decide
theorem n_rng0 : n_rng 0 := ⟨by decide, by decide⟩
def n_and (x y : Int) : Int := if y = 255 then x % 256 else if y = 15 then x % 16 else (Int32.ofInt x &&& Int32.ofInt y).toInt
def n_or (x y : Int) : Int := (Int32.ofInt x ||| Int32.ofInt y).toInt
def n_shl (x y : Int) : Int := (Int32.ofInt x <<< (Int32.ofInt y &&& 31)).toInt
def n_shr (x y : Int) : Int := (Int32.ofInt x >>> (Int32.ofInt y &&& 31)).toInt
def n_b (x : Int) : Int := (vp_nar .byte (Int32.ofInt x)).toInt
def n_c (x : Int) : Int := (vp_nar .char (Int32.ofInt x)).toInt
def n_i2b (x : Int) : Int := (Int32.ofInt x).toInt8.toInt32.toInt
def n_i2c (x : Int) : Int := ((Int32.ofInt x).toUInt32 % 65536).toInt32.toInt
def n_i2s (x : Int) : Int := (Int32.ofInt x).toInt16.toInt32.toInt
theorem n_back (z : Int32) : Int32.ofInt z.toInt = z := Int32.ofInt_toInt z
theorem n_andm {x : Int} {k m : Nat} (hk : k ≤ 31) (hm : m = 2 ^ k - 1) : Int32.ofInt x &&& Int32.ofInt (m : Int) = Int32.ofInt (x % (2 ^ k : Nat)) := by
  apply Int32.toBitVec_inj.mp
  rw [Int32.toBitVec_and]
  show BitVec.ofInt 32 x &&& BitVec.ofInt 32 (m : Int) = BitVec.ofInt 32 (x % (2 ^ k : Nat))
  apply BitVec.eq_of_toNat_eq
  have hp : 2 ^ k ≤ 2 ^ 31 := Nat.pow_le_pow_right (by decide) hk
  have hp1 : 0 < 2 ^ k := Nat.pos_of_ne_zero (by simp)
  rw [BitVec.toNat_and, BitVec.toNat_ofInt, BitVec.toNat_ofInt, BitVec.toNat_ofInt]
  have e : ((m : Int) % (2 ^ 32 : Nat)).toNat = 2 ^ k - 1 := by omega
  rw [e, Nat.and_two_pow_sub_one_eq_mod]
  have d : (2 ^ 32 : Nat) = 2 ^ k * 2 ^ (32 - k) := by rw [← Nat.pow_add]; congr 1; omega
  have h1 : x % (2 ^ 32 : Nat) % (2 ^ k : Nat) = x % (2 ^ k : Nat) := Int.emod_emod_of_dvd _ (by rw [d]; exact ⟨(2 ^ (32 - k) : Nat), by push_cast; rfl⟩)
  have h2 : 0 ≤ x % (2 ^ 32 : Nat) := Int.emod_nonneg _ (by omega)
  have h3 : 0 ≤ x % (2 ^ k : Nat) := Int.emod_nonneg _ (by omega)
  have h4 : x % (2 ^ k : Nat) < (2 ^ k : Nat) := Int.emod_lt_of_pos _ (by omega)
  rw [Int.emod_eq_of_lt h3 (by omega), ← h1, Int.toNat_emod h2 (by omega), Int.toNat_natCast]
theorem n_and_ok (x y : Int) : Int32.ofInt x &&& Int32.ofInt y = Int32.ofInt (n_and x y) := by
  unfold n_and
  split
  · rename_i h
    subst h
    exact n_andm (k := 8) (m := 255) (by decide) (by decide)
  · split
    · rename_i h
      subst h
      exact n_andm (k := 4) (m := 15) (by decide) (by decide)
    · rw [n_back]
def n_lj (o : Option (Option nV)) : Bool := match o with
  | some (some (.inr (.inl _))) => true
  | _ => false
def n_set (L : nL) (k : Nat) (v : nV) : Option nL := if k < L.length then (if k ≠ 0 ∧ n_lj L[k - 1]? = true then none else some (L.set k (some v))) else none
theorem n_lj_ok (o : Option (Option nV)) : mm_lj (o.map (Option.map ng)) = n_lj o := by
  obtain _ | _ | x | w | a := o <;> rfl
theorem n_set_ok {L L' : nL} {k : Nat} {v : nV} (h : n_set L k v = some L') : mm_set (ngL L) k (ng v) = some (ngL L') := by
  unfold n_set at h
  unfold mm_set
  have e : mm_lj (ngL L)[k - 1]? = n_lj L[k - 1]? := by
    unfold ngL
    rw [List.getElem?_map]
    exact n_lj_ok _
  rw [e]
  split at h
  · rename_i hk
    split at h
    · cases h
    · rename_i hj
      cases h
      rw [if_pos (by simpa [ngL] using hk), if_neg hj]
      simp [ngL, List.map_set]
  · cases h
/-- the same as tables that come to numbers -/
def n_refO : List (Option Nat) := [none, none, none, none, none, some 26, some 27, some 28, some 29, some 30, some 31, some 32, some 33, some 34, some 35, some 36, some 37, none, none, some 38, some 39, some 40, some 41, none, none, none, some 42, some 43, none, none, none, none, none, none, none, some 44, some 45, some 46, some 47, some 48, some 49, some 50, some 51, none, some 52, some 53, none, some 54, none, none, none, none, none, none, some 55, some 56, some 57]
def n_getf (s : nS) (k : Nat) : Option nV := match n_refO[k]? with
  | some (some a) => some (xR a)
  | some none => some (xI (s.1 k))
  | none => none
theorem n_refO_eq : n_refO = n_refs.map fun a => if a = 0 then none else some a := by decide
theorem n_getf_ok {s : nS} {k : Nat} {v : nV} (h : n_getf s k = some v) : k < 57 ∧ n_fv s.1 k = ng v := by
  unfold n_getf at h
  rw [n_refO_eq, List.getElem?_map] at h
  have hl : n_refs.length = 57 := by decide
  by_cases hk : k < 57
  · refine ⟨hk, ?_⟩
    have e : n_refs[k]? = some (n_ref k) := by
      unfold n_ref
      rw [List.getD_eq_getElem?_getD, List.getElem?_eq_getElem (by omega)]
      rfl
    rw [e] at h
    unfold n_fv
    by_cases h0 : n_ref k = 0
    · simp only [Option.map_some, h0, if_true, Option.some.injEq] at h
      subst h
      rw [if_pos h0]
      rfl
    · simp only [Option.map_some, h0, if_false, Option.some.injEq] at h
      subst h
      rw [if_neg h0]
      rfl
  · rw [List.getElem?_eq_none (by omega)] at h
    cases h
def n_arrs : List (Nat × Int) := [(2, 120), (0, 16), (0, 16), (0, 16), (0, 16), (1, 3200), (0, 16), (0, 800), (0, 800), (0, 64), (2, 1920), (0, 16), (0, 1300), (0, 1300), (0, 1300), (0, 1300), (0, 9), (0, 9), (0, 300), (0, 300), (0, 300), (1, 260), (0, 120), (0, 120), (0, 70), (0, 70), (0, 16), (0, 16), (1, 600), (0, 120), (0, 24), (0, 24)]
def n_arr (a : Nat) : Option (Nat × Int) := if a < 26 then none else n_arrs[a - 26]?
theorem n_arr_ok {a kd : Nat} {n : Int} (h : n_arr a = some (kd, n)) : 26 ≤ a ∧ a < 58 ∧ n_kd a = kd ∧ (n_len a : Int) = n := by
  unfold n_arr at h
  split at h
  · cases h
  · rename_i h1
    have hl : n_arrs.length = 32 := by decide
    have h2 : a - 26 < 32 := by
      have := (List.getElem?_eq_some_iff.mp h).1
      omega
    have q : ∀ j : Nat, j < 32 → n_arrs[j]? = some (n_kds.getD j 0, ((n_lens.getD j 0 : Nat) : Int)) := by decide
    rw [q _ h2] at h
    simp only [Option.some.injEq, Prod.mk.injEq] at h
    exact ⟨by omega, by omega, h.1, h.2⟩
def n_br (c : Jvm.ClassFile.Cond) (x y : Int) (P Q : Prop) : Prop := match c with
  | .eq => (x = y → P) ∧ (¬ x = y → Q)
  | .ne => (¬ x = y → P) ∧ (x = y → Q)
  | .lt => (x < y → P) ∧ (¬ x < y → Q)
  | .ge => (y ≤ x → P) ∧ (¬ y ≤ x → Q)
  | .gt => (y < x → P) ∧ (¬ y < x → Q)
  | .le => (x ≤ y → P) ∧ (¬ x ≤ y → Q)
theorem n_br_ok {c : Jvm.ClassFile.Cond} {x y : Int} {P Q : Prop} (h : n_br c x y P Q) : (n_cmp c x y → P) ∧ (¬ n_cmp c x y → Q) := by
  cases c
  · exact h
  · exact ⟨fun z => h.1 z, fun z => h.2 (Classical.not_not.mp z)⟩
  · exact h
  · exact h
  · exact h
  · exact h
def n_s1 (i : Instr) (L : nL) (st : List nV) (s : nS) : Option (nL × (List nV × nS)) := match i with
  | .sipush n => some (L, xI n :: st, s)
  | .iload k => (match L[k]? with
    | some (some (.inl x)) => some (L, xI x :: st, s)
    | _ => none)
  | .lload k => (match L[k]? with
    | some (some (.inr (.inl w))) => some (L, xJ w :: st, s)
    | _ => none)
  | .aload k => (match L[k]? with
    | some (some (.inr (.inr a))) => some (L, xR a :: st, s)
    | _ => none)
  | .istore k => (match st with
    | .inl x :: r => (n_set L k (xI x)).map fun L' => (L', r, s)
    | _ => none)
  | .iinc k n => (match L[k]? with
    | some (some (.inl x)) => (n_set L k (xI (x + n))).map fun L' => (L', st, s)
    | _ => none)
  | .invokeinterface ci k => (match st with
    | .inr (.inr a) :: r => if ci = 10 ∧ a = 25 then (match n_getf s k with
      | some v => some (L, v :: r, s)
      | none => none) else none
    | _ => none)
  | .pop => (match st with
    | .inl _ :: r => some (L, r, s)
    | _ => none)
  | .dup => (match st with
    | .inl x :: r => some (L, xI x :: xI x :: r, s)
    | .inr (.inr a) :: r => some (L, xR a :: xR a :: r, s)
    | _ => none)
  | .iadd => (match st with
    | .inl y :: .inl x :: r => some (L, xI (x + y) :: r, s)
    | _ => none)
  | .isub => (match st with
    | .inl y :: .inl x :: r => some (L, xI (x - y) :: r, s)
    | _ => none)
  | .imul => (match st with
    | .inl y :: .inl x :: r => some (L, xI (x * y) :: r, s)
    | _ => none)
  | .ineg => (match st with
    | .inl x :: r => some (L, xI (-x) :: r, s)
    | _ => none)
  | .iand => (match st with
    | .inl y :: .inl x :: r => some (L, xI (n_and x y) :: r, s)
    | _ => none)
  | .ior => (match st with
    | .inl y :: .inl x :: r => some (L, xI (n_or x y) :: r, s)
    | _ => none)
  | .ishl => (match st with
    | .inl y :: .inl x :: r => some (L, xI (n_shl x y) :: r, s)
    | _ => none)
  | .ishr => (match st with
    | .inl y :: .inl x :: r => some (L, xI (n_shr x y) :: r, s)
    | _ => none)
  | .i2b => (match st with
    | .inl x :: r => some (L, xI (n_i2b x) :: r, s)
    | _ => none)
  | .i2c => (match st with
    | .inl x :: r => some (L, xI (n_i2c x) :: r, s)
    | _ => none)
  | .i2s => (match st with
    | .inl x :: r => some (L, xI (n_i2s x) :: r, s)
    | _ => none)
  | .l2i => (match st with
    | .inr (.inl w) :: r => some (L, xI (w.toInt32.toInt) :: r, s)
    | _ => none)
  | .lushr => (match st with
    | .inl y :: .inr (.inl x) :: r => some (L, xJ (x.toUInt64 >>> ((Int32.ofInt y).toInt64.toUInt64 &&& Int64.toUInt64 63)).toInt64 :: r, s)
    | _ => none)
  | _ => none
theorem n_getL {L : nL} {k : Nat} {v : nV} (h : L[k]? = some (some v)) : (ngL L)[k]? = some (some (ng v)) := by
  unfold ngL
  rw [List.getElem?_map, h]
  rfl
set_option maxHeartbeats 1000000 in
theorem n_s1_ok {F T : List mm_O} {q : Nat × Nat} {Z : Nat → List Int32} {i : Instr} {L L' : nL} {st st' : List nV} {s s' : nS} (hF : F.length = 25) (h : n_s1 i L st s = some (L', st', s')) : mm_s1 mm_K Z i (ngL L) (ngS st) (n_H F T q s) = some (ngL L', ngS st', n_H F T q s') := by
  unfold n_s1 at h
  split at h
  · cases h; rfl
  · split at h
    · rename_i x hx
      cases h
      simp only [mm_s1, n_getL hx]
      rfl
    · cases h
  · split at h
    · rename_i x hx
      cases h
      simp only [mm_s1, n_getL hx]
      rfl
    · cases h
  · split at h
    · rename_i x hx
      cases h
      simp only [mm_s1, n_getL hx]
      rfl
    · cases h
  · split at h
    · obtain ⟨L2, h1, h2⟩ := Option.map_eq_some_iff.mp h
      cases h2
      show (mm_set (ngL L) _ (ng (xI _))).map _ = _
      rw [n_set_ok h1]
      rfl
    · cases h
  · split at h
    · rename_i x hx
      obtain ⟨L2, h1, h2⟩ := Option.map_eq_some_iff.mp h
      cases h2
      simp only [mm_s1, n_getL hx]
      have e := n_set_ok h1
      simp only [ng, Int32.ofInt_add] at e
      simp only [ng]
      rw [e]
      rfl
    · cases h
  · split at h
    · split at h
      · rename_i hc
        obtain ⟨rfl, rfl⟩ := hc
        split at h
        · rename_i v hv
          cases h
          have hk := n_getf_ok hv
          show (mm_fld (n_H F T q s) 25 10 _).map _ = _
          rw [n_fld hF hk.1, hk.2]
          rfl
        · cases h
      · cases h
    · cases h
  all_goals first
    | (split at h
       · cases h; rfl
       · cases h)
    | (split at h
       · cases h; rfl
       · cases h; rfl
       · cases h)
    | (split at h
       · cases h
         simp only [mm_s1, ngS, ng, List.map_cons, Int32.ofInt_add, Int32.ofInt_sub, Int32.ofInt_mul, Int32.ofInt_neg, n_and_ok, n_or, n_shl, n_shr, n_i2b, n_i2c, n_i2s, n_back]
       · cases h)
    | cases h
