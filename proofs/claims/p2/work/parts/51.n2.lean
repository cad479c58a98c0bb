def n_cmp (c : Jvm.ClassFile.Cond) (x y : Int) : Prop := match c with
  | .eq => x = y
  | .ne => ¬ x = y
  | .lt => x < y
  | .ge => y ≤ x
  | .gt => y < x
  | .le => x ≤ y
theorem n_cmp_iff {c : Jvm.ClassFile.Cond} {x y : Int} (hx : n_rng x) (hy : n_rng y) : mm_cmp c (Int32.ofInt x) (Int32.ofInt y) ↔ n_cmp c x y := by
  have ex := n_toInt hx
  have ey := n_toInt hy
  have hq : Int32.ofInt x = Int32.ofInt y ↔ x = y := by rw [← Int32.toInt_inj, ex, ey]
  cases c <;> simp only [mm_cmp, n_cmp, hq, Int32.lt_iff_toInt_lt, Int32.le_iff_toInt_le, ex, ey]
theorem n_z : Int32.ofInt 0 = 0 := by decide
theorem n_rng0 : n_rng 0 := ⟨by decide, by decide⟩
def n_and (x y : Int) : Int := if y = 255 then x % 256 else if y = 15 then x % 16 else (Int32.ofInt x &&& Int32.ofInt y).toInt
def n_or (x y : Int) : Int := (Int32.ofInt x ||| Int32.ofInt y).toInt
def n_shl (x y : Int) : Int := (Int32.ofInt x <<< (Int32.ofInt y &&& 31)).toInt
def n_shr (x y : Int) : Int := (Int32.ofInt x >>> (Int32.ofInt y &&& 31)).toInt
def n_b (x : Int) : Int := (vp_nar .byte (Int32.ofInt x)).toInt
def n_c (x : Int) : Int := (vp_nar .char (Int32.ofInt x)).toInt
def n_i2b (x : Int) : Int := (Int32.ofInt x).toInt8.toInt32.toInt
def n_i2c (x : Int) : Int := ((Int32.ofInt x).toUInt32 % 65536).toInt32.toInt
def n_i2s (x : Int) : Int := (Int32.ofInt x).toInt16.toInt32.toInt
theorem n_back (z : Int32) : Int32.ofInt z.toInt = z := Int32.ofInt_toInt z
theorem n_andm {x : Int} {k m : Nat} (hk : k ≤ 31) (hm : m = 2 ^ k - 1) : Int32.ofInt x &&& Int32.ofInt (m : Int) = Int32.ofInt (x % (2 ^ k : Nat)) := by
  apply Int32.toBitVec_inj.mp
  rw [Int32.toBitVec_and]
  show BitVec.ofInt 32 x &&& BitVec.ofInt 32 (m : Int) = BitVec.ofInt 32 (x % (2 ^ k : Nat))
  apply BitVec.eq_of_toNat_eq
  have hp : 2 ^ k ≤ 2 ^ 31 := Nat.pow_le_pow_right (by decide) hk
  have hp1 : 0 < 2 ^ k := Nat.pos_of_ne_zero (by simp)
  rw [BitVec.toNat_and, BitVec.toNat_ofInt, BitVec.toNat_ofInt, BitVec.toNat_ofInt]
  have e : ((m : Int) % (2 ^ 32 : Nat)).toNat = 2 ^ k - 1 := by omega
  rw [e, Nat.and_two_pow_sub_one_eq_mod]
  have d : (2 ^ 32 : Nat) = 2 ^ k * 2 ^ (32 - k) := by rw [← Nat.pow_add]; congr 1; omega
  have h1 : x % (2 ^ 32 : Nat) % (2 ^ k : Nat) = x % (2 ^ k : Nat) := Int.emod_emod_of_dvd _ (by rw [d]; exact ⟨(2 ^ (32 - k) : Nat), by push_cast; rfl⟩)
  have h2 : 0 ≤ x % (2 ^ 32 : Nat) := Int.emod_nonneg _ (by omega)
  have h3 : 0 ≤ x % (2 ^ k : Nat) := Int.emod_nonneg _ (by omega)
  have h4 : x % (2 ^ k : Nat) < (2 ^ k : Nat) := Int.emod_lt_of_pos _ (by omega)
  rw [Int.emod_eq_of_lt h3 (by omega)]
  omega
theorem n_and_ok (x y : Int) : Int32.ofInt x &&& Int32.ofInt y = Int32.ofInt (n_and x y) := by
  unfold n_and
  split
  · rename_i h
    subst h
    exact n_andm (k := 8) (m := 255) (by decide) (by decide)
  · split
    · rename_i h
      subst h
      exact n_andm (k := 4) (m := 15) (by decide) (by decide)
    · rw [n_back]
def n_lj (o : Option (Option nV)) : Bool := match o with
  | some (some (.inr (.inl _))) => true
  | _ => false
def n_set (L : nL) (k : Nat) (v : nV) : Option nL := if k < L.length then (if k ≠ 0 ∧ n_lj L[k - 1]? = true then none else some (L.set k (some v))) else none
theorem n_lj_ok (o : Option (Option nV)) : mm_lj (o.map (Option.map ng)) = n_lj o := by
  obtain _ | _ | x | w | a := o <;> rfl
theorem n_set_ok {L L' : nL} {k : Nat} {v : nV} (h : n_set L k v = some L') : mm_set (ngL L) k (ng v) = some (ngL L') := by
  unfold n_set at h
  unfold mm_set
  have e : mm_lj (ngL L)[k - 1]? = n_lj L[k - 1]? := by
    unfold ngL
    rw [List.getElem?_map]
    exact n_lj_ok _
  rw [e]
  split at h
  · rename_i hk
    split at h
    · cases h
    · rename_i hj
      cases h
      rw [if_pos (by simpa [ngL] using hk), if_neg hj]
      simp [ngL, List.map_set]
  · cases h
def n_s1 (i : Instr) (L : nL) (st : List nV) (s : nS) : Option (nL × (List nV × nS)) := match i with
  | .sipush n => some (L, xI n :: st, s)
  | .iload k => (match L[k]? with
    | some (some (.inl x)) => some (L, xI x :: st, s)
    | _ => none)
  | .lload k => (match L[k]? with
    | some (some (.inr (.inl w))) => some (L, xJ w :: st, s)
    | _ => none)
  | .aload k => (match L[k]? with
    | some (some (.inr (.inr a))) => some (L, xR a :: st, s)
    | _ => none)
  | .istore k => (match st with
    | .inl x :: r => (n_set L k (xI x)).map fun L' => (L', r, s)
    | _ => none)
  | .iinc k n => (match L[k]? with
    | some (some (.inl x)) => (n_set L k (xI (x + n))).map fun L' => (L', st, s)
    | _ => none)
  | .invokeinterface ci k => (match st with
    | .inr (.inr a) :: r => if ci = 10 ∧ a = 25 ∧ k < 57 then some (L, (if n_ref k = 0 then xI (s.1 k) else xR (n_ref k)) :: r, s) else none
    | _ => none)
  | .pop => (match st with
    | .inl _ :: r => some (L, r, s)
    | _ => none)
  | .dup => (match st with
    | .inl x :: r => some (L, xI x :: xI x :: r, s)
    | .inr (.inr a) :: r => some (L, xR a :: xR a :: r, s)
    | _ => none)
  | .iadd => (match st with
    | .inl y :: .inl x :: r => some (L, xI (x + y) :: r, s)
    | _ => none)
  | .isub => (match st with
    | .inl y :: .inl x :: r => some (L, xI (x - y) :: r, s)
    | _ => none)
  | .imul => (match st with
    | .inl y :: .inl x :: r => some (L, xI (x * y) :: r, s)
    | _ => none)
  | .ineg => (match st with
    | .inl x :: r => some (L, xI (-x) :: r, s)
    | _ => none)
  | .iand => (match st with
    | .inl y :: .inl x :: r => some (L, xI (n_and x y) :: r, s)
    | _ => none)
  | .ior => (match st with
    | .inl y :: .inl x :: r => some (L, xI (n_or x y) :: r, s)
    | _ => none)
  | .ishl => (match st with
    | .inl y :: .inl x :: r => some (L, xI (n_shl x y) :: r, s)
    | _ => none)
  | .ishr => (match st with
    | .inl y :: .inl x :: r => some (L, xI (n_shr x y) :: r, s)
    | _ => none)
  | .i2b => (match st with
    | .inl x :: r => some (L, xI (n_i2b x) :: r, s)
    | _ => none)
  | .i2c => (match st with
    | .inl x :: r => some (L, xI (n_i2c x) :: r, s)
    | _ => none)
  | .i2s => (match st with
    | .inl x :: r => some (L, xI (n_i2s x) :: r, s)
    | _ => none)
  | .l2i => (match st with
    | .inr (.inl w) :: r => some (L, xI (w.toInt32.toInt) :: r, s)
    | _ => none)
  | .lushr => (match st with
    | .inl y :: .inr (.inl x) :: r => some (L, xJ (x.toUInt64 >>> ((Int32.ofInt y).toInt64.toUInt64 &&& Int64.toUInt64 63)).toInt64 :: r, s)
    | _ => none)
  | _ => none
theorem n_getL {L : nL} {k : Nat} {v : nV} (h : L[k]? = some (some v)) : (ngL L)[k]? = some (some (ng v)) := by
  unfold ngL
  rw [List.getElem?_map, h]
  rfl
set_option maxHeartbeats 1000000 in
theorem n_s1_ok {F T : List mm_O} {q : Nat × Nat} {Z : Nat → List Int32} {i : Instr} {L L' : nL} {st st' : List nV} {s s' : nS} (hF : F.length = 25) (h : n_s1 i L st s = some (L', st', s')) : mm_s1 mm_K Z i (ngL L) (ngS st) (n_H F T q s) = some (ngL L', ngS st', n_H F T q s') := by
  unfold n_s1 at h
  split at h
  · cases h; rfl
  · split at h
    · rename_i x hx
      cases h
      simp only [mm_s1, n_getL hx]
      rfl
    · cases h
  · split at h
    · rename_i x hx
      cases h
      simp only [mm_s1, n_getL hx]
      rfl
    · cases h
  · split at h
    · rename_i x hx
      cases h
      simp only [mm_s1, n_getL hx]
      rfl
    · cases h
  · split at h
    · obtain ⟨L2, h1, h2⟩ := Option.map_eq_some_iff.mp h
      cases h2
      show (mm_set (ngL L) _ (ng (xI _))).map _ = _
      rw [n_set_ok h1]
      rfl
    · cases h
  · split at h
    · rename_i x hx
      obtain ⟨L2, h1, h2⟩ := Option.map_eq_some_iff.mp h
      cases h2
      simp only [mm_s1, n_getL hx]
      have e := n_set_ok h1
      simp only [ng, Int32.ofInt_add] at e
      simp only [ng]
      rw [e]
      rfl
    · cases h
  · split at h
    · split at h
      · rename_i hc
        obtain ⟨rfl, rfl, hk⟩ := hc
        cases h
        show (mm_fld (n_H F T q s) 25 10 _).map _ = _
        rw [n_fld hF hk]
        unfold n_fv
        split <;> rfl
      · cases h
    · cases h
  all_goals first
    | (split at h
       · cases h; rfl
       · cases h)
    | (split at h
       · cases h; rfl
       · cases h; rfl
       · cases h)
    | (split at h
       · cases h
         simp only [mm_s1, ngS, ng, List.map_cons, Int32.ofInt_add, Int32.ofInt_sub, Int32.ofInt_mul, Int32.ofInt_neg, n_and_ok, n_or, n_shl, n_shr, n_i2b, n_i2c, n_i2s, n_back]
       · cases h)
    | cases h
