/-! THE REFERENCE'S OBJECTS -/
section N24
variable {Z : Nat → List Int32} {d : Nat} {s : nS}
theorem ng144 {v : Int} (hd : 6 ≤ d) (hv : n_rng v) : NG Z d 144 [xI v] s (fun r s' => (∃ k, r = some k ∧ 0 ≤ k ∧ k ≤ 4) ∧ s' = s) := by
  have h42 : ∀ y : Int, 0 ≤ y ∧ y ≤ 4 → NP Z d 144 42 [some (xI v)] [xI y] s (fun r s' => (∃ k, r = some k ∧ 0 ≤ k ∧ k ≤ 4) ∧ s' = s) := fun y h => n_at nb144_42 hd rfl ⟨⟨y, rfl, h⟩, rfl⟩
  refine n_G_of (L := [some (xI v)]) (by rw [nl144]; exact Nat.le_of_ble_eq_true rfl) (by rw [nl144]; rfl) ?_
  refine n_at nb144_0 hd rfl ⟨hv, fun _ => ?_, fun _ => h42 0 (by decide)⟩
  refine n_at nb144_8 hd rfl ⟨hv, ⟨by decide, by decide⟩, fun _ => ?_, fun _ => h42 1 (by decide)⟩
  refine n_at nb144_19 hd rfl ⟨hv, ⟨by decide, by decide⟩, fun _ => ?_, fun _ => h42 2 (by decide)⟩
  refine n_at nb144_30 hd rfl ⟨hv, ⟨by decide, by decide⟩, fun _ => ?_, fun _ => h42 3 (by decide)⟩
  exact n_at nb144_41 hd rfl (h42 4 (by decide))
theorem ng145 {v k : Int} (hd : 6 ≤ d) (hv : n_rng v) (hk : n_rng k) : NG Z (d + 1) 145 [xI v, xI k] s (fun r s' => (∃ y, r = some y) ∧ s' = s) := by
  have h25 : ∀ y n : Int, NP Z (d + 1) 145 25 [some (xI v), some (xI k), some (xI n)] [xI y] s (fun r s' => (∃ y, r = some y) ∧ s' = s) := fun y n => n_at nb145_25 (by omega) rfl ⟨⟨y, rfl⟩, rfl⟩
  refine n_G_of (L := [some (xI v), some (xI k), none]) (by rw [nl145]; exact Nat.le_of_ble_eq_true rfl) (by rw [nl145]; rfl) ?_
  refine n_at nb145_0 (by omega) rfl ?_
  refine n_is (vs := [xI v]) (r := []) nn144 (by simp) (ng144 hd hv) (fun r s' hr => ?_)
  obtain ⟨⟨n, e1, hn⟩, e2⟩ := hr
  rw [e1, e2]
  refine ⟨hk, fun _ => n_at nb145_13 (by omega) rfl (h25 _ _), fun _ => h25 _ _⟩
/-- the fixes of an object -/
theorem n_l143 {u k n3 n4 n5 n6 : Int} {x9 x10 : Option nV} (hd : 6 ≤ d) (hu : 0 ≤ u ∧ u < 16) (hk : n_rng k) (hf : 0 ≤ s.2 32 u.toNat ∧ s.2 32 u.toNat ≤ 50) (hn : ∀ i, n_rng (s.2 34 i)) : ∀ (q : Nat) (at' j : Int) (x9 x10 : Option nV), 0 ≤ j → j + q = s.2 32 u.toNat → (0 ≤ at' ∧ at' ≤ 300 + 7 * j) → NP Z (d + 2) 143 204 [some (xR 25), some (xI u), some (xI k), some (xI n3), some (xI n4), some (xI n5), some (xI n6), some (xI at'), some (xI j), x9, x10] [] s (fun r s' => n_some r (s' = s)) := by
  intro q
  induction q with
  | zero =>
    intro at' j x9 x10 h0 hj ha
    have h335 : ∀ y : Int, NP Z (d + 2) 143 335 [some (xR 25), some (xI u), some (xI k), some (xI n3), some (xI n4), some (xI n5), some (xI n6), some (xI at'), some (xI j), x9, x10] [xI y] s (fun r s' => n_some r (s' = s)) := fun y => n_at nb143_335 (by omega) rfl rfl
    refine n_at nb143_204 (by omega) rfl ⟨⟨by omega, by omega⟩, ⟨by omega, by omega⟩, ⟨by omega, by omega⟩, fun _ => ?_, fun z => ?_⟩
    · exact n_at nb143_324 (by omega) rfl ⟨hk, ⟨by decide, by decide⟩, fun _ => n_at nb143_334 (by omega) rfl (h335 _), fun _ => h335 _⟩
    · omega
  | succ q ih =>
    intro at' j x9 x10 h0 hj ha
    refine n_at nb143_204 (by omega) rfl ⟨⟨by omega, by omega⟩, ⟨by omega, by omega⟩, ⟨by omega, by omega⟩, fun z => ?_, fun z => ⟨⟨by omega, by omega⟩, ?_⟩⟩
    · omega
    refine n_is (vs := [xI (s.2 34 (50 * u + j).toNat)]) (r := [xI 3]) nn144 (by simp) (ng144 (by omega) (hn _)) (fun r s' hr => ?_)
    obtain ⟨⟨w, e1, hw⟩, e2⟩ := hr
    rw [e1, e2]
    have h311 : NP Z (d + 2) 143 311 [some (xR 25), some (xI u), some (xI k), some (xI n3), some (xI n4), some (xI n5), some (xI n6), some (xI at'), some (xI j), some (xI (50 * u + j)), some (xI (3 + w))] [] s (fun r s' => n_some r (s' = s)) := n_at nb143_311 (by omega) rfl (ih (at' + (3 + w)) (j + 1) _ _ (by omega) (by omega) ⟨by omega, by omega⟩)
    have h310 : ∀ y : Int, NP Z (d + 2) 143 310 [some (xR 25), some (xI u), some (xI k), some (xI n3), some (xI n4), some (xI n5), some (xI n6), some (xI at'), some (xI j), some (xI (50 * u + j)), some (xI (3 + w))] [xI y] s (fun r s' => n_some r (s' = s)) := fun y => n_at nb143_310 (by omega) rfl rfl
    refine ⟨hk, ⟨by omega, by omega⟩, fun _ => h311, fun z1 => ⟨hk, ⟨by omega, by omega⟩, fun _ => h311, fun z2 => ⟨hk, ⟨by omega, by omega⟩, fun _ => ?_, fun _ => ⟨⟨by omega, by omega⟩, h310 _⟩⟩⟩⟩
    refine n_at nb143_272 (by omega) rfl ⟨hk, ⟨by omega, by omega⟩, fun _ => ?_, fun _ => ⟨⟨by omega, by omega⟩, h310 _⟩⟩
    refine n_at nb143_294 (by omega) rfl ⟨⟨by omega, by omega⟩, ?_⟩
    refine n_is (vs := [xI (s.2 34 (50 * u + j).toNat), xI (k - at' - 2)]) (r := []) nn145 (by simp) (ng145 hd (hn _) ⟨by omega, by omega⟩) (fun r s' hr => ?_)
    obtain ⟨⟨y, e1⟩, e2⟩ := hr
    rw [e1, e2]
    exact h310 _
theorem ng143 {u k : Int} (hd : 6 ≤ d) (hu : n_rng u) (hk : n_rng k) (hun : 0 ≤ s.1 2 ∧ s.1 2 ≤ 16) (hs : ∀ i, n_rng (s.2 27 i) ∧ n_rng (s.2 28 i)) (hn : ∀ i, n_rng (s.2 34 i)) (hU : 0 ≤ u → u < s.1 2 → (0 ≤ s.2 30 u.toNat ∧ s.2 30 u.toNat ≤ 200) ∧ (0 ≤ s.2 32 u.toNat ∧ s.2 32 u.toNat ≤ 50)) : NG Z (d + 2) 143 [xR 25, xI u, xI k] s (fun r s' => n_some r (s' = (n_upd s.1 0 0, s.2))) := by
  have h27 : ∀ L : nL, NP Z (d + 2) 143 27 L [] (n_upd s.1 0 0, s.2) (fun r s' => n_some r (s' = (n_upd s.1 0 0, s.2))) := fun L => n_at nb143_27 (by omega) rfl rfl
  have h29 : (0 ≤ u ∧ u < s.1 2) → NP Z (d + 2) 143 29 [some (xR 25), some (xI u), some (xI k), none, none, none, none, none, none, none, none] [] (n_upd s.1 0 0, s.2) (fun r s' => n_some r (s' = (n_upd s.1 0 0, s.2))) := by
    intro hq
    obtain ⟨q1, q2⟩ := hU hq.1 hq.2
    refine n_at nb143_29 (by omega) rfl ⟨⟨hq.1, by omega⟩, ?_⟩
    refine n_is (vs := [xI (s.2 28 u.toNat)]) (r := [xI 1]) nn144 (by simp) (ng144 (by omega) (hs _).2) (fun r s' hr => ?_)
    obtain ⟨⟨w, e1, hw⟩, e2⟩ := hr
    rw [e1, e2]
    refine ⟨⟨hq.1, by omega⟩, hk, fun z0 => ?_, fun _ => ⟨⟨hq.1, by omega⟩, rfl⟩⟩
    have h195 : NP Z (d + 2) 143 195 [some (xR 25), some (xI u), some (xI k), some (xI (1 + w)), some (xI (1 + (1 + w))), some (xI (1 + (1 + w) + 3)), some (xI (1 + (1 + w) + 3 + s.2 30 u.toNat)), none, none, none, none] [] (n_upd s.1 0 0, s.2) (fun r s' => n_some r (s' = (n_upd s.1 0 0, s.2))) := by
      refine n_at nb143_195 (by omega) rfl ?_
      exact n_l143 (s := (n_upd s.1 0 0, s.2)) (x9 := none) (x10 := none) hd ⟨hq.1, by omega⟩ hk q2 hn (s.2 32 u.toNat).toNat _ 0 none none (by omega) (by show 0 + ((s.2 32 u.toNat).toNat : Int) = s.2 32 u.toNat; omega) ⟨by omega, by omega⟩
    have h182 : NP Z (d + 2) 143 182 [some (xR 25), some (xI u), some (xI k), some (xI (1 + w)), some (xI (1 + (1 + w))), some (xI (1 + (1 + w) + 3)), some (xI (1 + (1 + w) + 3 + s.2 30 u.toNat)), none, none, none, none] [] (n_upd s.1 0 0, s.2) (fun r s' => n_some r (s' = (n_upd s.1 0 0, s.2))) := n_at nb143_182 (by omega) rfl ⟨hk, ⟨by omega, by omega⟩, fun _ => h195, fun _ => ⟨⟨hq.1, by omega⟩, rfl⟩⟩
    have h150 : NP Z (d + 2) 143 150 [some (xR 25), some (xI u), some (xI k), some (xI (1 + w)), some (xI (1 + (1 + w))), some (xI (1 + (1 + w) + 3)), some (xI (1 + (1 + w) + 3 + s.2 30 u.toNat)), none, none, none, none] [] (n_upd s.1 0 0, s.2) (fun r s' => n_some r (s' = (n_upd s.1 0 0, s.2))) := by
      refine n_at nb143_150 (by omega) rfl ⟨hk, ⟨by omega, by omega⟩, fun _ => h182, fun z1 => ⟨hk, ⟨by omega, by omega⟩, fun _ => h182, fun z2 => ⟨⟨by omega, by omega⟩, rfl⟩⟩⟩
    have h149 : ∀ y : Int, NP Z (d + 2) 143 149 [some (xR 25), some (xI u), some (xI k), some (xI (1 + w)), some (xI (1 + (1 + w))), some (xI (1 + (1 + w) + 3)), some (xI (1 + (1 + w) + 3 + s.2 30 u.toNat)), none, none, none, none] [xI y] (n_upd s.1 0 0, s.2) (fun r s' => n_some r (s' = (n_upd s.1 0 0, s.2))) := fun y => n_at nb143_149 (by omega) rfl rfl
    have h144 : ∀ x y : Int, NP Z (d + 2) 143 144 [some (xR 25), some (xI u), some (xI k), some (xI (1 + w)), some (xI (1 + (1 + w))), some (xI (1 + (1 + w) + 3)), some (xI (1 + (1 + w) + 3 + s.2 30 u.toNat)), none, none, none, none] [xI y, xI x] (n_upd s.1 0 0, s.2) (fun r s' => n_some r (s' = (n_upd s.1 0 0, s.2))) := fun x y => n_at nb143_144 (by omega) rfl (h149 _)
    have h97 : NP Z (d + 2) 143 97 [some (xR 25), some (xI u), some (xI k), some (xI (1 + w)), some (xI (1 + (1 + w))), some (xI (1 + (1 + w) + 3)), some (xI (1 + (1 + w) + 3 + s.2 30 u.toNat)), none, none, none, none] [] (n_upd s.1 0 0, s.2) (fun r s' => n_some r (s' = (n_upd s.1 0 0, s.2))) := by
      refine n_at nb143_97 (by omega) rfl ⟨hk, ⟨by omega, by omega⟩, fun _ => h150, fun z1 => ⟨hk, ⟨by omega, by omega⟩, fun _ => h150, fun z2 => ⟨hk, ⟨by omega, by omega⟩, fun _ => ?_, fun _ => ⟨⟨hq.1, by omega⟩, h149 _⟩⟩⟩⟩
      exact n_at nb143_124 (by omega) rfl ⟨⟨hq.1, by omega⟩, hk, ⟨by omega, by omega⟩, fun _ => n_at nb143_143 (by omega) rfl (h144 _ _), fun _ => h144 _ _⟩
    refine n_at nb143_74 (by omega) rfl ⟨hk, fun _ => h97, fun z1 => ⟨hk, ⟨by omega, by omega⟩, fun _ => h97, fun z2 => ⟨⟨hq.1, by omega⟩, ?_⟩⟩⟩
    refine n_is (vs := [xI (s.2 28 u.toNat), xI (k - 1)]) (r := []) nn145 (by simp) (ng145 hd (hs _).2 ⟨by omega, by omega⟩) (fun r s' hr => ?_)
    obtain ⟨⟨y, e1⟩, e2⟩ := hr
    rw [e1, e2]
    exact rfl
  refine n_G_of (L := [some (xR 25), some (xI u), some (xI k), none, none, none, none, none, none, none, none]) (by rw [nl143]; exact Nat.le_of_ble_eq_true rfl) (by rw [nl143]; rfl) ?_
  refine n_at nb143_0 (by omega) rfl ⟨hu, fun _ => h27 _, fun z1 => ⟨hu, ⟨by show _ ≤ s.1 2; omega, by show s.1 2 < _; omega⟩, fun _ => h27 _, fun z2 => ?_⟩⟩
  have z2 : ¬ s.1 2 ≤ u := z2
  exact ⟨⟨by omega, by omega⟩, (hs _).1, ⟨by decide, by decide⟩, fun _ => h29 ⟨by omega, by omega⟩, fun _ => h27 _⟩
end N24
