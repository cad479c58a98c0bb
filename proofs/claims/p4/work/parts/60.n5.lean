/-! THE REFERENCE'S LEAVES -/
def n_T (b : Bool) : Int := if b = true then 1 else 0
theorem n_T01 (b : Bool) : n_T b = 0 ∨ n_T b = 1 := by cases b <;> simp [n_T]
theorem n_rngT (b : Bool) : n_rng (n_T b) := by cases b <;> simp [n_T, n_rng]
def c_dig (c : Int) : Bool := decide (48 ≤ c ∧ c ≤ 57)
def c_let (c : Int) : Bool := decide (97 ≤ c ∧ c ≤ 122)
def c_sgn (c : Int) : Bool := decide (c = 43 ∨ c = 45 ∨ c = 42 ∨ c = 60 ∨ c = 61)
section N5
variable {Z : Nat → List Int32} {d : Nat} {s : nS}
theorem ng113 {c : Int} (hd : 6 ≤ d) (hc : n_rng c) : NG Z d 113 [xI c] s (fun r s' => r = some (n_T (c_dig c)) ∧ s' = s) := by
  have h17 : ∀ b : Bool, b = c_dig c → NP Z d 113 17 [some (xI c)] [xI (n_T b)] s (fun r s' => r = some (n_T (c_dig c)) ∧ s' = s) := fun b hb => n_at nb113_17 hd rfl ⟨n_T01 b, by rw [hb], rfl⟩
  have h16 : c_dig c = false → NP Z d 113 16 [some (xI c)] [] s (fun r s' => r = some (n_T (c_dig c)) ∧ s' = s) := fun h => n_at nb113_16 hd rfl (h17 false h.symm)
  refine n_G_of (L := [some (xI c)]) (by rw [nl113]; exact Nat.le_of_ble_eq_true rfl) (by rw [nl113]; rfl) ?_
  refine n_at nb113_0 hd rfl ?_
  refine ⟨hc, ⟨by decide, by decide⟩, fun z => h16 ?_, fun z => ⟨hc, ⟨by decide, by decide⟩, fun z2 => h16 ?_, fun z2 => h17 true ?_⟩⟩
  · simp [c_dig]; omega
  · simp [c_dig]; omega
  · simp [c_dig]; omega
theorem ng114 {c : Int} (hd : 6 ≤ d) (hc : n_rng c) : NG Z d 114 [xI c] s (fun r s' => r = some (n_T (c_let c)) ∧ s' = s) := by
  have h17 : ∀ b : Bool, b = c_let c → NP Z d 114 17 [some (xI c)] [xI (n_T b)] s (fun r s' => r = some (n_T (c_let c)) ∧ s' = s) := fun b hb => n_at nb114_17 hd rfl ⟨n_T01 b, by rw [hb], rfl⟩
  have h16 : c_let c = false → NP Z d 114 16 [some (xI c)] [] s (fun r s' => r = some (n_T (c_let c)) ∧ s' = s) := fun h => n_at nb114_16 hd rfl (h17 false h.symm)
  refine n_G_of (L := [some (xI c)]) (by rw [nl114]; exact Nat.le_of_ble_eq_true rfl) (by rw [nl114]; rfl) ?_
  refine n_at nb114_0 hd rfl ?_
  refine ⟨hc, ⟨by decide, by decide⟩, fun z => h16 ?_, fun z => ⟨hc, ⟨by decide, by decide⟩, fun z2 => h16 ?_, fun z2 => h17 true ?_⟩⟩
  · simp [c_let]; omega
  · simp [c_let]; omega
  · simp [c_let]; omega
theorem ng115 {c : Int} (hd : 6 ≤ d) (hc : n_rng c) : NG Z d 115 [xI c] s (fun r s' => r = some (n_T (c_sgn c)) ∧ s' = s) := by
  have h35 : ∀ b : Bool, b = c_sgn c → NP Z d 115 35 [some (xI c)] [xI (n_T b)] s (fun r s' => r = some (n_T (c_sgn c)) ∧ s' = s) := fun b hb => n_at nb115_35 hd rfl ⟨n_T01 b, by rw [hb], rfl⟩
  have h30 : c_sgn c = true → NP Z d 115 30 [some (xI c)] [] s (fun r s' => r = some (n_T (c_sgn c)) ∧ s' = s) := fun h => n_at nb115_30 hd rfl (h35 true h.symm)
  have h34 : c_sgn c = false → NP Z d 115 34 [some (xI c)] [] s (fun r s' => r = some (n_T (c_sgn c)) ∧ s' = s) := fun h => n_at nb115_34 hd rfl (h35 false h.symm)
  refine n_G_of (L := [some (xI c)]) (by rw [nl115]; exact Nat.le_of_ble_eq_true rfl) (by rw [nl115]; rfl) ?_
  refine n_at nb115_0 hd rfl ?_
  have q : ∀ k : Int, c = k → (k = 43 ∨ k = 45 ∨ k = 42 ∨ k = 60 ∨ k = 61) → c_sgn c = true := fun k z hk => by simp [c_sgn]; omega
  refine ⟨hc, ⟨by decide, by decide⟩, fun z => h30 (q 43 z (by decide)), fun z1 => ?_⟩
  refine ⟨hc, ⟨by decide, by decide⟩, fun z => h30 (q 45 z (by decide)), fun z2 => ?_⟩
  refine ⟨hc, ⟨by decide, by decide⟩, fun z => h30 (q 42 z (by decide)), fun z3 => ?_⟩
  refine ⟨hc, ⟨by decide, by decide⟩, fun z => h30 (q 60 z (by decide)), fun z4 => ?_⟩
  refine ⟨hc, ⟨by decide, by decide⟩, fun z => h34 ?_, fun z => h30 (q 61 z (by decide))⟩
  simp [c_sgn]
  omega
/-- the character at a place: of the text, or of a macro's -/
def n_at1 (s : nS) (m k : Int) : Int := if m < 0 then (if k < s.1 1 then s.2 26 k.toNat else 0) else (if k < s.2 37 m.toNat then s.2 36 (120 * m + k).toNat else 0)
theorem ng112 {m k : Int} (hd : 6 ≤ d) (hm : n_rng m) (hk : 0 ≤ k ∧ k < 100000) (ht : 0 ≤ s.1 1 ∧ s.1 1 ≤ 120) (h16 : 0 ≤ m → m < 16 ∧ 0 ≤ s.2 37 m.toNat ∧ s.2 37 m.toNat ≤ 120) : NG Z d 112 [xR 25, xI m, xI k] s (fun r s' => r = some (n_at1 s m k) ∧ s' = s) := by
  have h22 : ∀ y : Int, y = n_at1 s m k → NP Z d 112 22 [some (xR 25), some (xI m), some (xI k)] [xI y] s (fun r s' => r = some (n_at1 s m k) ∧ s' = s) := fun y hy => n_at nb112_22 hd rfl ⟨by rw [hy], rfl⟩
  have h48 : ∀ y : Int, y = n_at1 s m k → NP Z d 112 48 [some (xR 25), some (xI m), some (xI k)] [xI y] s (fun r s' => r = some (n_at1 s m k) ∧ s' = s) := fun y hy => n_at nb112_48 hd rfl ⟨by rw [hy], rfl⟩
  have h21 : m < 0 → s.1 1 ≤ k → NP Z d 112 21 [some (xR 25), some (xI m), some (xI k)] [] s (fun r s' => r = some (n_at1 s m k) ∧ s' = s) := fun a b => n_at nb112_21 hd rfl (h22 0 (by unfold n_at1; rw [if_pos a, if_neg (by omega)]))
  have h47 : 0 ≤ m → s.2 37 m.toNat ≤ k → NP Z d 112 47 [some (xR 25), some (xI m), some (xI k)] [] s (fun r s' => r = some (n_at1 s m k) ∧ s' = s) := fun a b => n_at nb112_47 hd rfl (h48 0 (by unfold n_at1; rw [if_neg (by omega), if_neg (by omega)]))
  have h23 : 0 ≤ m → NP Z d 112 23 [some (xR 25), some (xI m), some (xI k)] [] s (fun r s' => r = some (n_at1 s m k) ∧ s' = s) := fun a => by
    obtain ⟨b1, b2, b3⟩ := h16 a
    refine n_at nb112_23 hd rfl ?_
    refine ⟨⟨a, by omega⟩, ⟨by omega, by omega⟩, ⟨by omega, by omega⟩, fun z => h47 a z, fun z => ?_⟩
    refine ⟨⟨by omega, by omega⟩, h48 _ ?_⟩
    unfold n_at1
    rw [if_neg (by omega), if_pos (by omega)]
  refine n_G_of (L := [some (xR 25), some (xI m), some (xI k)]) (by rw [nl112]; exact Nat.le_of_ble_eq_true rfl) (by rw [nl112]; rfl) ?_
  refine n_at nb112_0 hd rfl ?_
  refine ⟨hm, fun z => h23 z, fun z => ?_⟩
  refine ⟨⟨by omega, by omega⟩, ⟨by omega, by omega⟩, fun z2 => h21 (by omega) z2, fun z2 => ?_⟩
  have z2 : ¬ s.1 1 ≤ k := z2
  refine ⟨⟨by omega, by omega⟩, h22 _ ?_⟩
  unfold n_at1
  rw [if_pos (by omega), if_pos (by omega)]
/-- a new form -/
theorem ng116 {w v : Int} (hd : 6 ≤ d) (hf : 0 ≤ s.1 17 ∧ s.1 17 < 1300) : NG Z d 116 [xR 25, xI w, xI v] s (fun r s' => r = some (s.1 17) ∧ s' = (n_upd s.1 17 (s.1 17 + 1), n_updA (n_updA s.2 38 (s.1 17).toNat w) 39 (s.1 17).toNat v)) := by
  refine n_G_of (L := [some (xR 25), some (xI w), some (xI v)]) (by rw [nl116]; exact Nat.le_of_ble_eq_true rfl) (by rw [nl116]; rfl) ?_
  refine n_at nb116_0 hd rfl ?_
  refine ⟨hf, hf, ?_⟩
  refine ⟨?_, rfl⟩
  show some (s.1 17 + 1 - 1) = _
  congr 1
  omega
end N5
