/-! A STEP: its contract; run -/
section N23
variable {Z : Nat → List Int32} {d : Nat} {s : nS} {D : Nat → Int} {K : Nat → Bool} {op arg : Int}
theorem n_st82 (hd : 6 ≤ d) (hI : n_IV s D K) (hR : n_RS s D K) (h1 : s.1 48 = 1) (ho : s.2 54 (s.1 49).toNat = op) (ha : op = 1 ∨ op = 11 → arg = s.2 54 ((s.1 49).toNat + 1) % 256) (ht : op < 2 → ¬ s.1 51 = 120) (hc : op = 12 → ¬ s.1 52 = 24) : NP Z (d + 1) 159 82 [some (xR 25), some (xI op), some (xI arg), none] [] s (fun r s' => r = none ∧ n_SP s D K s') := by
  obtain ⟨i1, i2⟩ := hI
  obtain ⟨a1, a2, a3, a4⟩ := id hR
  obtain ⟨b1, b2, b3, b4, b5, b6, b7⟩ := a4 h1
  have hp := i2 (s.1 49).toNat (by omega) b2
  unfold n_IVp at hp
  rw [ho, show ((s.1 49).toNat : Int) = s.1 49 from by omega] at hp
  have hor : 0 ≤ op ∧ op ≤ 14 := by
    rcases hp with h | h | h | h | h | h | h | h | h | h | h <;> omega
  have hw : ∀ q : Int, op = q → n_wide op = n_wide q := fun q h => by rw [h]
  refine n_at nb159_82 (by omega) rfl ?_
  refine n_is (vs := [xI op]) (r := [xI (s.1 49)]) nn153 (by simp) (ng153 (by omega) ⟨by omega, by omega⟩) (fun r s' hr => ?_)
  rw [hr.1, hr.2]
  refine ⟨⟨by omega, by omega⟩, ⟨by decide, by decide⟩, fun z => ?_, fun z0 => ⟨⟨by decide, by decide⟩, fun z => ?_, fun z1 => ⟨⟨by decide, by decide⟩, fun z => ?_, fun z2 => ⟨⟨by decide, by decide⟩, fun z => ?_, fun z3 => ⟨⟨by decide, by decide⟩, fun z => ?_, fun z4 => ⟨⟨by decide, by decide⟩, fun z => ?_, fun z5 => ⟨⟨by decide, by decide⟩, fun z => ?_, fun z6 => ⟨⟨by decide, by decide⟩, fun z => ?_, fun z7 => ⟨⟨by decide, by decide⟩, fun z => ?_, fun z8 => ⟨⟨by decide, by decide⟩, fun z => ?_, fun z9 => ⟨⟨by decide, by decide⟩, fun z => ?_, fun z10 => ⟨⟨by decide, by decide⟩, fun z => ?_, fun z11 => ⟨⟨by decide, by decide⟩, fun z => ?_, fun z12 => ⟨⟨by decide, by decide⟩, fun z => ?_, fun z13 => ⟨⟨by decide, by decide⟩, fun z => ?_, fun z14 => ?_⟩⟩⟩⟩⟩⟩⟩⟩⟩⟩⟩⟩⟩⟩⟩
  · have f := hp.resolve_right (by omega)
    exact n_st168 hd i1.2 hR h1 (by have := ht (by omega); omega) f.2.1 f.2.2.1 f.2.2.2 (by rw [hw _ z]; rfl)
  · have f := (hp.resolve_left (by omega)).resolve_right (by omega)
    exact n_st186 hd i1.2 hR h1 (by have := ht (by omega); omega) f.2.1 (by have := ha (Or.inl z); omega) f.2.2.2.1 f.2.2.2.2 (by rw [hw _ z]; rfl)
  iterate 5
    · have f := ((hp.resolve_left (by omega)).resolve_left (by omega)).resolve_right (by omega)
      exact n_st481 hd i1.2 ⟨by omega, by omega⟩ hR h1 f.2.1 f.2.2.1 f.2.2.2.1 f.2.2.2.2 (by rw [hw _ z]; rfl)
  · have f := (((hp.resolve_left (by omega)).resolve_left (by omega)).resolve_left (by omega)).resolve_right (by omega)
    exact n_st204 hd i1.2 hR h1 f.2.1 f.2.2.1 f.2.2.2.1 f.2.2.2.2
  · have f := ((((hp.resolve_left (by omega)).resolve_left (by omega)).resolve_left (by omega)).resolve_left (by omega)).resolve_right (by omega)
    exact n_st218 hd i1.2 hR h1 f.2.1 f.2.2.1 f.2.2.2.2.1 f.2.2.2.2.2.1 f.2.2.2.2.2.2 f.2.2.2.1.1 f.2.2.2.1.2 (by rw [hw _ z]; rfl)
  · have f := (((((hp.resolve_left (by omega)).resolve_left (by omega)).resolve_left (by omega)).resolve_left (by omega)).resolve_left (by omega)).resolve_right (by omega)
    exact n_st258 hd i1.2 hR h1 f.2.1 f.2.2.1 f.2.2.2.1 f.2.2.2.2 (by rw [hw _ z]; rfl)
  · have f := ((((((hp.resolve_left (by omega)).resolve_left (by omega)).resolve_left (by omega)).resolve_left (by omega)).resolve_left (by omega)).resolve_left (by omega)).resolve_right (by omega)
    exact n_st293 hd i1.2 hR h1 f.2.1 f.2.2.1 f.2.2.2.1 f.2.2.2.2 (by rw [hw _ z]; rfl)
  · have f := (((((((hp.resolve_left (by omega)).resolve_left (by omega)).resolve_left (by omega)).resolve_left (by omega)).resolve_left (by omega)).resolve_left (by omega)).resolve_left (by omega)).resolve_right (by omega)
    exact n_st306 hd i1.2 hR h1 f.2.1 f.2.2.1 (by have := ha (Or.inr z); omega) f.2.2.2.2.1 f.2.2.2.2.2 (by rw [hw _ z]; rfl)
  · have f := ((((((((hp.resolve_left (by omega)).resolve_left (by omega)).resolve_left (by omega)).resolve_left (by omega)).resolve_left (by omega)).resolve_left (by omega)).resolve_left (by omega)).resolve_left (by omega)).resolve_right (by omega)
    exact n_st331 hd i1.2 hR h1 (hc z) f.2.1 f.2.2.1 f.2.2.2.2.1 f.2.2.2.2.2.1 f.2.2.2.2.2.2 f.2.2.2.1.1 f.2.2.2.1.2 (by rw [hw _ z]; rfl)
  · have f := (((((((((hp.resolve_left (by omega)).resolve_left (by omega)).resolve_left (by omega)).resolve_left (by omega)).resolve_left (by omega)).resolve_left (by omega)).resolve_left (by omega)).resolve_left (by omega)).resolve_left (by omega)).resolve_right (by omega)
    exact n_st402 hd i1.2 hR h1 f.2.2.1 f.2.2.2
  · exact n_st468 hd hR
  · omega
theorem ng159 (hd : 6 ≤ d) (hI : n_IV s D K) (hR : n_RS s D K) (h1 : s.1 48 = 1) : NG Z (d + 1) 159 [xR 25] s (fun r s' => r = none ∧ n_SP s D K s') := by
  obtain ⟨i1, i2⟩ := id hI
  obtain ⟨a1, a2, a3, a4⟩ := id hR
  obtain ⟨b1, b2, b3, b4, b5, b6, b7⟩ := a4 h1
  have hp := i2 (s.1 49).toNat (by omega) b2
  unfold n_IVp at hp
  rw [show ((s.1 49).toNat : Int) = s.1 49 from by omega] at hp
  have hor : 0 ≤ s.2 54 (s.1 49).toNat ∧ s.2 54 (s.1 49).toNat ≤ 14 := by
    rcases hp with h | h | h | h | h | h | h | h | h | h | h <;> omega
  have hpn : (s.2 54 (s.1 49).toNat = 1 ∨ s.2 54 (s.1 49).toNat = 11 ∨ s.2 54 (s.1 49).toNat = 13) → s.1 49 + 1 < s.1 46 := by
    intro hq
    rcases hp with h | h | h | h | h | h | h | h | h | h | h <;> omega
  have h82 := fun arg ha ht hc => n_st82 (Z := Z) (op := s.2 54 (s.1 49).toNat) (arg := arg) hd hI hR h1 rfl ha ht hc
  clear hp
  have hr1 : n_rng (s.2 54 (s.1 49).toNat) := ⟨by omega, by omega⟩
  have h61 : ∀ arg : Int, (s.2 54 (s.1 49).toNat = 1 ∨ s.2 54 (s.1 49).toNat = 11 → arg = s.2 54 ((s.1 49).toNat + 1) % 256) → (s.2 54 (s.1 49).toNat < 2 → ¬ s.1 51 = 120) → NP Z (d + 1) 159 61 [some (xR 25), some (xI (s.2 54 (s.1 49).toNat)), some (xI arg), none] [] s (fun r s' => r = none ∧ n_SP s D K s') := by
    intro arg ha ht
    refine n_at nb159_61 (by omega) rfl ⟨hr1, ⟨by decide, by decide⟩, fun z => h82 arg ha ht (fun h => absurd h z), fun z => ?_⟩
    exact ⟨⟨by omega, by omega⟩, ⟨by decide, by decide⟩, fun z2 => h82 arg ha ht (fun _ => z2), fun _ => n_st76 rfl hd hR⟩
  have h46 : ∀ arg : Int, (s.2 54 (s.1 49).toNat = 1 ∨ s.2 54 (s.1 49).toNat = 11 → arg = s.2 54 ((s.1 49).toNat + 1) % 256) → NP Z (d + 1) 159 46 [some (xR 25), some (xI (s.2 54 (s.1 49).toNat)), none, none] [xI arg] s (fun r s' => r = none ∧ n_SP s D K s') := by
    intro arg ha
    refine n_at nb159_46 (by omega) rfl ⟨hr1, ⟨by decide, by decide⟩, fun z => h61 arg ha (fun h => by omega), fun z => ?_⟩
    exact ⟨⟨by omega, by omega⟩, ⟨by decide, by decide⟩, fun _ => n_st76 rfl hd hR, fun z2 => h61 arg ha (fun _ => z2)⟩
  have h27 : (s.2 54 (s.1 49).toNat = 1 ∨ s.2 54 (s.1 49).toNat = 11 ∨ s.2 54 (s.1 49).toNat = 13) → NP Z (d + 1) 159 27 [some (xR 25), some (xI (s.2 54 (s.1 49).toNat)), none, none] [] s (fun r s' => r = none ∧ n_SP s D K s') := by
    intro hq
    have := hpn hq
    refine n_at nb159_27 (by omega) rfl ⟨⟨by omega, by omega⟩, h46 _ (fun _ => ?_)⟩
    rw [show (s.1 49).toNat + 1 = (s.1 49 + 1).toNat from by omega]
    rfl
  refine n_G_of (L := [some (xR 25), none, none, none]) (by rw [nl159]; exact Nat.le_of_ble_eq_true rfl) (by rw [nl159]; rfl) ?_
  refine n_at nb159_0 (by omega) rfl ⟨⟨by omega, by omega⟩, hr1, ⟨by decide, by decide⟩, fun z => h27 (Or.inl z), fun z1 => ⟨hr1, ⟨by decide, by decide⟩, fun z => h27 (Or.inr (Or.inl z)), fun z2 => ⟨hr1, ⟨by decide, by decide⟩, fun z3 => ?_, fun z => h27 (Or.inr (Or.inr z))⟩⟩⟩
  exact n_at nb159_45 (by omega) rfl (h46 0 (fun h => by omega))
theorem n_IV_fr {s' : nS} (h : n_IV s D K) (e46 : s'.1 46 = s.1 46) (e54 : ∀ i, s'.2 54 i = s.2 54 i) : n_IV s' D K := by
  unfold n_IV n_IVp n_pl at h ⊢
  simp only [e46, e54]
  exact h
/-- what a run leaves -/
def n_RP (b : nS) (D : Nat → Int) (K : Nat → Bool) (s' : nS) : Prop := n_RS s' D K ∧ (∀ k, ¬ (k = 0 ∨ (48 ≤ k ∧ k ≤ 53)) → s'.1 k = b.1 k) ∧ (∀ a i, ¬ (55 ≤ a ∧ a ≤ 57) → s'.2 a i = b.2 a i)
theorem n_l158 {b : nS} {n : Int} (hd : 6 ≤ d) (hn : n_rng n) (hI : n_IV b D K) : ∀ (j : Nat) (s : nS) (made : Int), n_RP b D K s → n_rng (s.1 0) → (0 ≤ made ∧ made ≤ 500) → ((s.1 0 = 0 → n ≤ 500) ∧ 500 - made ≤ j) → NP Z (d + 2) 158 22 [some (xR 25), some (xI n), some (xI made)] [] s (fun r s' => n_some r (n_RP b D K s')) := by
  intro j
  induction j with
  | zero =>
    intro s made hR h0 hm hj
    obtain ⟨r1, r2, r3⟩ := id hR
    have h52 : NP Z (d + 2) 158 52 [some (xR 25), some (xI n), some (xI made)] [] s (fun r s' => n_some r (n_RP b D K s')) := n_at nb158_52 (by omega) rfl hR
    refine n_at nb158_22 (by omega) rfl ⟨h0, fun _ => h52, fun z => ⟨⟨by omega, by omega⟩, hn, fun _ => h52, fun z2 => ?_⟩⟩
    have := hj.1 z
    omega
  | succ j ih =>
    intro s made hR h0 hm hj
    obtain ⟨r1, r2, r3⟩ := id hR
    have h52 : NP Z (d + 2) 158 52 [some (xR 25), some (xI n), some (xI made)] [] s (fun r s' => n_some r (n_RP b D K s')) := n_at nb158_52 (by omega) rfl hR
    refine n_at nb158_22 (by omega) rfl ⟨h0, fun _ => h52, fun z => ⟨⟨by omega, by omega⟩, hn, fun _ => h52, fun z2 => ⟨r1.2.2.1, ⟨by decide, by decide⟩, fun _ => h52, fun z3 => ?_⟩⟩⟩
    have hn5 := hj.1 z
    refine n_iv (vs := [xR 25]) (r := []) nn159 (by simp) rfl nc159 (ng159 hd (n_IV_fr hI (r2 46 (by decide)) (fun i => r3 54 i (by decide))) r1 z3) (fun r s' hr => ?_)
    obtain ⟨e1, p1, p2, p3⟩ := hr
    rw [e1]
    have e0 : s'.1 0 = s.1 0 := p2 0 (by decide)
    exact ih s' (made + 1) ⟨p1, fun k hk => (p2 k (by omega)).trans (r2 k hk), fun a i ha => (p3 a i ha).trans (r3 a i ha)⟩ (by rw [e0]; exact h0) ⟨by omega, by omega⟩ ⟨by rw [e0]; exact hj.1, by omega⟩
theorem ng158 {n : Int} (hd : 6 ≤ d) (hn : n_rng n) (hI : n_IV s D K) (hR : n_RS s D K) : NG Z (d + 2) 158 [xR 25, xI n] s (fun r s' => n_some r (n_RP s D K s')) := by
  have h17 : ∀ q : Bool, (q = false → n ≤ 500) → NP Z (d + 2) 158 17 [some (xR 25), some (xI n), none] [xI (n_T q), xR 25] s (fun r s' => n_some r (n_RP s D K s')) := by
    intro q hq
    refine n_at nb158_17 (by omega) rfl ?_
    refine n_l158 hd hn hI 500 _ 0 ⟨hR, fun k hk => n_u_ne (by omega), fun _ _ _ => rfl⟩ (n_rngT q) ⟨by omega, by omega⟩ ⟨fun h => hq (n_T0 h), by omega⟩
  have h12 : NP Z (d + 2) 158 12 [some (xR 25), some (xI n), none] [xR 25] s (fun r s' => n_some r (n_RP s D K s')) := n_at nb158_12 (by omega) rfl (h17 true (fun h => absurd h (by decide)))
  refine n_G_of (L := [some (xR 25), some (xI n), none]) (by rw [nl158]; exact Nat.le_of_ble_eq_true rfl) (by rw [nl158]; rfl) ?_
  refine n_at nb158_0 (by omega) rfl ⟨hn, fun _ => h12, fun z => ⟨hn, ⟨by decide, by decide⟩, fun z2 => ?_, fun _ => h12⟩⟩
  exact n_at nb158_16 (by omega) rfl (h17 false (fun _ => z2))
end N23
