/-! BITS -/
theorem n_toNat (x : Int) : (BitVec.ofInt 32 x).toNat = (x % 4294967296).toNat := by
  rw [BitVec.toNat_ofInt]
  rfl
theorem n_mod_toInt (z : Int32) (k : Nat) (hk : k = 256) : z.toInt % (k : Nat) = ((z.toBitVec.toNat % k : Nat) : Int) := by
  subst hk
  have h : z.toInt = z.toBitVec.toInt := rfl
  rw [h, BitVec.toInt_eq_toNat_bmod]
  have hlt := z.toBitVec.isLt
  have : (2 ^ 32 : Nat) = 4294967296 := by decide
  rw [Int.bmod_def]
  omega
theorem n_shl8 (x : Int) : (Int32.ofInt x <<< (Int32.ofInt 8 &&& 31)).toBitVec = BitVec.ofInt 32 x <<< 8 := by
  rw [Int32.toBitVec_shiftLeft]
  have : ((Int32.ofInt 8 &&& 31).toBitVec.smod 32) = 8#32 := by decide
  rw [this]
  rfl
/-- a symbol's last character -/
theorem n_or_low {v c : Int} (hc : 0 ≤ c ∧ c < 256) : n_or (n_shl v 8) c % 256 = c := by
  unfold n_or n_shl
  rw [n_back]
  have h := n_mod_toInt ((Int32.ofInt v <<< (Int32.ofInt 8 &&& 31)) ||| Int32.ofInt c) 256 rfl
  have e0 : ((256 : Nat) : Int) = 256 := rfl
  rw [e0] at h
  rw [h]
  rw [Int32.toBitVec_or, n_shl8, BitVec.toNat_or, BitVec.toNat_shiftLeft]
  have e1 : (Int32.ofInt c).toBitVec.toNat = c.toNat := by
    show (BitVec.ofInt 32 c).toNat = _
    rw [n_toNat]
    omega
  rw [e1]
  generalize (BitVec.ofInt 32 v).toNat = a
  have e2 : a <<< 8 % 2 ^ 32 = (a % 2 ^ 24) <<< 8 := by
    rw [Nat.shiftLeft_eq, Nat.shiftLeft_eq]
    omega
  rw [e2, ← Nat.shiftLeft_add_eq_or_of_lt (by omega : c.toNat < 2 ^ 8), Nat.shiftLeft_eq]
  omega
theorem n_rng_toInt (z : Int32) : n_rng z.toInt := ⟨by have := Int32.le_toInt z; omega, by have := Int32.toInt_lt z; omega⟩
theorem n_rng_or (x y : Int) : n_rng (n_or x y) := n_rng_toInt _
theorem n_rng_shl (x y : Int) : n_rng (n_shl x y) := n_rng_toInt _
theorem n_rng_shr (x y : Int) : n_rng (n_shr x y) := n_rng_toInt _
theorem n_rng_b (x : Int) : n_rng (n_b x) := n_rng_toInt _
theorem n_and255 (x : Int) : n_and x 255 = x % 256 := rfl
