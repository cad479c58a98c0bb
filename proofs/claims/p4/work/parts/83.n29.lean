/-! A UNIT IS KEPT: the contract -/
def n_k1 (s : nS) (w nm n : Int) : Nat → Nat → Int := n_updA (n_updA (n_updA (n_updA (n_updA s.2 27 (s.1 2).toNat w) 28 (s.1 2).toNat nm) 29 (s.1 2).toNat n) 30 (s.1 2).toNat (if w = 2 then 0 else s.1 30)) 32 (s.1 2).toNat (if w = 2 then 0 else s.1 34)
def n_k2 (s : nS) (w nm n : Int) : Nat → Nat → Int := n_cp (n_k1 s w nm n) 31 (200 * s.1 2).toNat (if w = 2 then 0 else s.1 30).toNat (fun j => n_b (n_k1 s w nm n 47 j))
def n_k3 (s : nS) (w nm n : Int) : Nat → Nat → Int := n_cp (n_cp (n_k2 s w nm n) 33 (50 * s.1 2).toNat (if w = 2 then 0 else s.1 34).toNat (n_k2 s w nm n 50)) 34 (50 * s.1 2).toNat (if w = 2 then 0 else s.1 34).toNat (n_k2 s w nm n 51)
def n_k4 (s : nS) (w nm n : Int) : Nat → Nat → Int := n_cp (n_k3 s w nm n) 35 (4 * s.1 2).toNat (if w = 2 then n.toNat else 0) (n_k3 s w nm n 48)
def n_k5 (s : nS) (w nm n fr : Int) : Nat → Nat → Int := n_updA (n_k4 s w nm n) 37 (s.1 2).toNat (s.1 1 - fr)
def n_kp (s : nS) (w nm n fr : Int) : nS := (n_upd s.1 2 (s.1 2 + 1), n_cp (n_k5 s w nm n fr) 36 (120 * s.1 2).toNat (if w = 2 then (s.1 1 - fr).toNat else 0) (fun j => n_c (n_k5 s w nm n fr 26 (fr.toNat + j))))
section N29
variable {Z : Nat → List Int32} {d : Nat} {s : nS} {w nm n fr : Int}
theorem n_k2_30 : n_k2 s w nm n 32 (s.1 2).toNat = (if w = 2 then 0 else s.1 34) := by
  show n_updA _ 32 (s.1 2).toNat (if w = 2 then 0 else s.1 34) 32 (s.1 2).toNat = _
  rw [n_ua_eq, if_pos rfl]
theorem ng141 (hd : 6 ≤ d) (hu : 0 ≤ s.1 2 ∧ s.1 2 < 16) (hw : w = 0 ∨ w = 1 ∨ w = 2) (hsz : ¬ w = 2 → (0 ≤ s.1 30 ∧ s.1 30 ≤ 200) ∧ (0 ≤ s.1 34 ∧ s.1 34 ≤ 50)) (hn : 0 ≤ n ∧ n ≤ 4) (hf : 0 ≤ fr ∧ fr ≤ s.1 1) (ht : s.1 1 ≤ 120) : NG Z d 141 [xR 25, xI w, xI nm, xI n, xI fr] s (fun r s' => r = some (s.1 2) ∧ s' = n_kp s w nm n fr) := by
  have hwr : n_rng w := ⟨by omega, by omega⟩
  have hs0 : 0 ≤ (if w = 2 then 0 else s.1 30) ∧ (if w = 2 then 0 else s.1 30) ≤ 200 := by
    by_cases h : w = 2
    · rw [if_pos h]; decide
    · rw [if_neg h]; exact (hsz h).1
  have hx0 : 0 ≤ (if w = 2 then 0 else s.1 34) ∧ (if w = 2 then 0 else s.1 34) ≤ 50 := by
    by_cases h : w = 2
    · rw [if_pos h]; decide
    · rw [if_neg h]; exact (hsz h).2
  have h273 : ∀ o, NP Z d 141 273 (n_L7 w nm n fr (s.1 2) o) [] (s.1, n_cp (n_k5 s w nm n fr) 36 (120 * s.1 2).toNat (if w = 2 then (s.1 1 - fr).toNat else 0) (fun j => n_c (n_k5 s w nm n fr 26 (fr.toNat + j)))) (fun r s' => r = some (s.1 2) ∧ s' = n_kp s w nm n fr) := fun o => n_at nb141_273 hd rfl ⟨rfl, rfl⟩
  have h212 : ∀ o, NP Z d 141 212 (n_L7 w nm n fr (s.1 2) o) [] (s.1, n_k4 s w nm n) (fun r s' => r = some (s.1 2) ∧ s' = n_kp s w nm n fr) := fun o => by
    refine n_at nb141_212 hd rfl ⟨⟨hu.1, hu.2⟩, ?_⟩
    have := n_l141d (Z := Z) (S := s.1) (A := n_k5 s w nm n fr) (nm := nm) (n := n) hd hu hwr hf ht h273 (s.1 1 - fr).toNat 0 (by omega) (Or.inr rfl)
    rw [n_cp_0, show fr + ((0 : Nat) : Int) = fr from by omega] at this
    exact this
  have h173 : ∀ o, NP Z d 141 173 (n_L7 w nm n fr (s.1 2) o) [] (s.1, n_k3 s w nm n) (fun r s' => r = some (s.1 2) ∧ s' = n_kp s w nm n fr) := fun o => by
    refine n_at nb141_173 hd rfl ?_
    have := n_l141c (Z := Z) (S := s.1) (A := n_k3 s w nm n) (nm := nm) (fr := fr) hd hu hwr hn h212 n.toNat 0 (by omega) (Or.inr rfl)
    rw [n_cp_0] at this
    exact this
  have h112 : ∀ o, NP Z d 141 112 (n_L7 w nm n fr (s.1 2) o) [] (s.1, n_k2 s w nm n) (fun r s' => r = some (s.1 2) ∧ s' = n_kp s w nm n fr) := fun o => by
    refine n_at nb141_112 hd rfl ?_
    have := n_l141b (Z := Z) (S := s.1) (A := n_k2 s w nm n) (w := w) (nm := nm) (n := n) (fr := fr) hd hu _ hx0 n_k2_30 h173 (if w = 2 then 0 else s.1 34).toNat 0 (by omega)
    rw [n_cp_0, n_cp_0] at this
    exact this
  have h69 : NP Z d 141 69 (n_L7 w nm n fr (s.1 2) none) [xI (if w = 2 then 0 else s.1 34), xI (s.1 2), xR 32] (s.1, n_updA (n_updA (n_updA (n_updA s.2 27 (s.1 2).toNat w) 28 (s.1 2).toNat nm) 29 (s.1 2).toNat n) 30 (s.1 2).toNat (if w = 2 then 0 else s.1 30)) (fun r s' => r = some (s.1 2) ∧ s' = n_kp s w nm n fr) := by
    refine n_at nb141_69 hd rfl ⟨⟨hu.1, hu.2⟩, ?_⟩
    have e30 : n_k1 s w nm n 30 (s.1 2).toNat = (if w = 2 then 0 else s.1 30) := by
      unfold n_k1
      rw [n_ua_ne (by decide), n_ua_eq, if_pos rfl]
    have := n_l141a (Z := Z) (S := s.1) (A := n_k1 s w nm n) (w := w) (nm := nm) (n := n) (fr := fr) hd hu _ hs0 e30 h112 (if w = 2 then 0 else s.1 30).toNat 0 (by omega)
    rw [n_cp_0] at this
    exact this
  have h49 : NP Z d 141 49 (n_L7 w nm n fr (s.1 2) none) [xI (if w = 2 then 0 else s.1 30), xI (s.1 2), xR 30] (s.1, n_updA (n_updA (n_updA s.2 27 (s.1 2).toNat w) 28 (s.1 2).toNat nm) 29 (s.1 2).toNat n) (fun r s' => r = some (s.1 2) ∧ s' = n_kp s w nm n fr) := by
    refine n_at nb141_49 hd rfl ⟨⟨hu.1, hu.2⟩, hwr, ⟨by decide, by decide⟩, fun z => ?_, fun z => ?_⟩
    · refine n_at nb141_65 hd rfl ?_
      rw [if_neg z] at h69
      exact h69
    · rw [if_pos z] at h69
      exact h69
  refine n_G_of (L := [some (xR 25), some (xI w), some (xI nm), some (xI n), some (xI fr), none, none]) (by rw [nl141]; exact Nat.le_of_ble_eq_true rfl) (by rw [nl141]; rfl) ?_
  refine n_at nb141_0 hd rfl ⟨⟨hu.1, hu.2⟩, ⟨hu.1, hu.2⟩, ⟨hu.1, hu.2⟩, hwr, ⟨by decide, by decide⟩, fun z => ?_, fun z => ?_⟩
  · refine n_at nb141_45 hd rfl ?_
    rw [if_neg z] at h49
    exact h49
  · rw [if_pos z] at h49
    exact h49
end N29
