/-! SMALL METHODS OF THE REFERENCE'S COMPILER -/
def n_word (a b c : Int) : Int := n_or (n_or (n_shl a 16) (n_shl b 8)) c
/-- the last place below n at which P holds, or -1 -/
def n_lat (P : Nat → Bool) : Nat → Int
  | 0 => -1
  | k + 1 => if P k = true then (k : Int) else n_lat P k
theorem n_lat_b (P : Nat → Bool) : ∀ n : Nat, -1 ≤ n_lat P n ∧ n_lat P n < n
  | 0 => ⟨Int.le_refl _, by show (-1 : Int) < 0; decide⟩
  | k + 1 => by
    unfold n_lat
    have := n_lat_b P k
    split
    · exact ⟨by omega, by omega⟩
    · exact ⟨by omega, by omega⟩
theorem n_lat_p (P : Nat → Bool) : ∀ n : Nat, 0 ≤ n_lat P n → P (n_lat P n).toNat = true
  | 0, h => absurd (show (0 : Int) ≤ -1 from h) (by decide)
  | k + 1, h => by
    unfold n_lat at h ⊢
    split
    · rename_i hp
      exact hp
    · rename_i hp
      rw [if_neg hp] at h
      exact n_lat_p P k h
def n_by (x : Int) : Int := n_b (n_i2b x)
def n_em (s : nS) (x : Int) : nS := if s.1 30 < 260 then (n_upd (n_upd s.1 30 (s.1 30 + 1)) 28 (n_T (decide (¬ s.1 28 = 0 ∨ 200 < s.1 30 + 1))), n_updA s.2 47 (s.1 30).toNat (n_by x)) else (n_upd s.1 28 (n_T (decide (¬ s.1 28 = 0 ∨ 200 < s.1 30))), s.2)
section N17
variable {Z : Nat → List Int32} {d : Nat} {s : nS}
theorem ng123 {a b c : Int} (hd : 6 ≤ d) : NG Z d 123 [xI a, xI b, xI c] s (fun r s' => r = some (n_word a b c) ∧ s' = s) := by
  refine n_G_of (L := [some (xI a), some (xI b), some (xI c)]) (by rw [nl123]; exact Nat.le_of_ble_eq_true rfl) (by rw [nl123]; rfl) ?_
  exact n_at nb123_0 hd rfl ⟨rfl, rfl⟩
theorem n_rng_word (a b c : Int) : n_rng (n_word a b c) := n_rng_or _ _
theorem ng125 {v : Int} (hd : 6 ≤ d) (hv : n_rng v) : NG Z (d + 1) 125 [xI v] s (fun r s' => (∃ q : Bool, r = some (n_T q)) ∧ s' = s) := by
  have h94 : ∀ q : Bool, NP Z (d + 1) 125 94 [some (xI v)] [xI (n_T q)] s (fun r s' => (∃ q : Bool, r = some (n_T q)) ∧ s' = s) := fun q => n_at nb125_94 (by omega) rfl ⟨n_T01 q, ⟨q, rfl⟩, rfl⟩
  have h89 : NP Z (d + 1) 125 89 [some (xI v)] [] s (fun r s' => (∃ q : Bool, r = some (n_T q)) ∧ s' = s) := n_at nb125_89 (by omega) rfl (h94 true)
  have h93 : NP Z (d + 1) 125 93 [some (xI v)] [] s (fun r s' => (∃ q : Bool, r = some (n_T q)) ∧ s' = s) := n_at nb125_93 (by omega) rfl (h94 false)
  refine n_G_of (L := [some (xI v)]) (by rw [nl125]; exact Nat.le_of_ble_eq_true rfl) (by rw [nl125]; rfl) ?_
  refine n_at nb125_0 (by omega) rfl ?_
  refine n_is (vs := [xI 100, xI 101, xI 102]) (r := [xI v]) nn123 (by simp) (ng123 (by omega)) (fun r s' hr => ?_)
  rw [hr.1, hr.2]
  refine ⟨hv, n_rng_word _ _ _, fun _ => h89, fun _ => ?_⟩
  refine n_is (vs := [xI 109, xI 97, xI 99]) (r := [xI v]) nn123 (by simp) (ng123 (by omega)) (fun r s' hr => ?_)
  rw [hr.1, hr.2]
  refine ⟨hv, n_rng_word _ _ _, fun _ => h89, fun _ => ?_⟩
  refine n_is (vs := [xI 0, xI 105, xI 102]) (r := [xI v]) nn123 (by simp) (ng123 (by omega)) (fun r s' hr => ?_)
  rw [hr.1, hr.2]
  refine ⟨hv, n_rng_word _ _ _, fun _ => h89, fun _ => ?_⟩
  refine n_is (vs := [xI 108, xI 101, xI 116]) (r := [xI v]) nn123 (by simp) (ng123 (by omega)) (fun r s' hr => ?_)
  rw [hr.1, hr.2]
  refine ⟨hv, n_rng_word _ _ _, fun _ => h89, fun _ => ?_⟩
  refine n_is (vs := [xI 0, xI 100, xI 111]) (r := [xI v]) nn123 (by simp) (ng123 (by omega)) (fun r s' hr => ?_)
  rw [hr.1, hr.2]
  refine ⟨hv, n_rng_word _ _ _, fun _ => h89, fun _ => ?_⟩
  refine n_is (vs := [xI 115, xI 101, xI 116]) (r := [xI v]) nn123 (by simp) (ng123 (by omega)) (fun r s' hr => ?_)
  rw [hr.1, hr.2]
  refine ⟨hv, n_rng_word _ _ _, fun _ => h89, fun _ => ?_⟩
  refine n_is (vs := [xI 114, xI 117, xI 110]) (r := [xI v]) nn123 (by simp) (ng123 (by omega)) (fun r s' hr => ?_)
  rw [hr.1, hr.2]
  exact ⟨hv, n_rng_word _ _ _, fun _ => h93, fun _ => h89⟩
/-- is a form a symbol of letters -/
theorem ng124 {f : Int} (hd : 6 ≤ d) (hf : 0 ≤ f ∧ f < 1300) (hk : n_rng (s.2 38 f.toNat)) (hv : s.2 38 f.toNat = 1 → n_rng (s.2 39 f.toNat)) : NG Z (d + 1) 124 [xR 25, xI f] s (fun r s' => (∃ q : Bool, r = some (n_T q) ∧ (q = true → s.2 38 f.toNat = 1)) ∧ s' = s) := by
  have h31 : ∀ q : Bool, (q = true → s.2 38 f.toNat = 1) → NP Z (d + 1) 124 31 [some (xR 25), some (xI f)] [xI (n_T q)] s (fun r s' => (∃ q : Bool, r = some (n_T q) ∧ (q = true → s.2 38 f.toNat = 1)) ∧ s' = s) := fun q hq => n_at nb124_31 (by omega) rfl ⟨n_T01 q, ⟨q, rfl, hq⟩, rfl⟩
  have h30 : NP Z (d + 1) 124 30 [some (xR 25), some (xI f)] [] s (fun r s' => (∃ q : Bool, r = some (n_T q) ∧ (q = true → s.2 38 f.toNat = 1)) ∧ s' = s) := n_at nb124_30 (by omega) rfl (h31 false (fun h => absurd h (by decide)))
  refine n_G_of (L := [some (xR 25), some (xI f)]) (by rw [nl124]; exact Nat.le_of_ble_eq_true rfl) (by rw [nl124]; rfl) ?_
  refine n_at nb124_0 (by omega) rfl ?_
  refine ⟨hf, hk, ⟨by decide, by decide⟩, fun _ => h30, fun z => ⟨hf, ?_⟩⟩
  refine n_is (vs := [xI (s.2 39 f.toNat % 256)]) (r := []) nn114 (by simp) (ng114 (by omega) ⟨by omega, by omega⟩) (fun r s' hr => ?_)
  rw [hr.1, hr.2]
  exact ⟨n_rngT _, fun _ => h30, fun _ => h31 true (fun _ => z)⟩
/-- what a list begins with -/
theorem ng120 {f : Int} {xs : List Int} (hd : 6 ≤ d) (hf : 0 ≤ f ∧ f < 1300) (hk : n_rng (s.2 38 f.toNat)) (hx : n_isch s.2 (n_fst s f) xs) (hl : xs.length < 100000) (hh : ∀ x ∈ xs, (0 ≤ s.2 40 x.toNat ∧ s.2 40 x.toNat < 1300) ∧ n_rng (s.2 38 (s.2 40 x.toNat).toNat) ∧ (s.2 38 (s.2 40 x.toNat).toNat = 1 → n_rng (s.2 39 (s.2 40 x.toNat).toNat))) : NG Z (d + 1) 120 [xR 25, xI f] s (fun r s' => (∃ v, r = some v ∧ n_rng v ∧ (v = 0 ∨ xs ≠ [])) ∧ s' = s) := by
  have h40 : ∀ (v n : Int), n_rng v → (v = 0 ∨ xs ≠ []) → NP Z (d + 1) 120 40 [some (xR 25), some (xI f), some (xI n)] [xI v] s (fun r s' => (∃ v, r = some v ∧ n_rng v ∧ (v = 0 ∨ xs ≠ [])) ∧ s' = s) := fun v n hv h => n_at nb120_40 (by omega) rfl ⟨⟨v, rfl, hv, h⟩, rfl⟩
  have h39 : ∀ n : Int, NP Z (d + 1) 120 39 [some (xR 25), some (xI f), some (xI n)] [] s (fun r s' => (∃ v, r = some v ∧ n_rng v ∧ (v = 0 ∨ xs ≠ [])) ∧ s' = s) := fun n => n_at nb120_39 (by omega) rfl (h40 0 n ⟨by decide, by decide⟩ (Or.inl rfl))
  refine n_G_of (L := [some (xR 25), some (xI f), none]) (by rw [nl120]; exact Nat.le_of_ble_eq_true rfl) (by rw [nl120]; rfl) ?_
  refine n_at nb120_0 (by omega) rfl ?_
  refine n_iv (vs := [xR 25, xI f]) (r := []) nn121 (by simp) rfl nc121 (ng121 (by omega) hf hk hx hl) (fun r s' hr => ?_)
  rw [hr.1, hr.2]
  refine ⟨⟨by omega, by omega⟩, fun _ => h39 _, fun z => ?_⟩
  obtain _ | ⟨x, xs'⟩ := xs
  · exact absurd (by decide : ((([] : List Int).length : Nat) : Int) ≤ 0) z
  have hne : (x :: xs') ≠ [] := by simp
  obtain ⟨b1, b2, b3⟩ := hh x List.mem_cons_self
  have h2 : s.2 38 f.toNat = 2 := by
    apply Classical.byContradiction
    intro hn
    have h1 := hx.1
    have h2 := hx.2.1
    unfold n_fst at h1
    rw [if_neg hn] at h1
    omega
  have hx2 : n_isch s.2 (s.2 39 f.toNat) (x :: xs') := by
    have := hx
    unfold n_fst at this
    rw [if_pos h2] at this
    exact this
  refine n_iv (vs := [xR 25, xI f, xI 0]) (r := [xR 38]) nn122 (by simp) rfl nc122 (ng122 (by omega) hf ⟨by decide, by decide⟩ hx2 (by rfl)) (fun r s' hr => ?_)
  rw [hr.1, hr.2]
  refine ⟨b1, b2, ⟨by decide, by decide⟩, fun _ => h39 _, fun z2 => ?_⟩
  refine n_iv (vs := [xR 25, xI f, xI 0]) (r := [xR 39]) nn122 (by simp) rfl nc122 (ng122 (by omega) hf ⟨by decide, by decide⟩ hx2 (by rfl)) (fun r s' hr => ?_)
  rw [hr.1, hr.2]
  exact ⟨b1, h40 _ _ (b3 z2) (Or.inr hne)⟩
/-- a macro of that name -/
theorem n_l132 {v : Int} (hd : 6 ≤ d) (hv : n_rng v) (hs : ∀ i, n_rng (s.2 27 i) ∧ n_rng (s.2 28 i)) : ∀ k : Nat, k ≤ 16 → NP Z d 132 7 [some (xR 25), some (xI v), some (xI ((k : Int) - 1))] [] s (fun r s' => r = some (if v = 0 then -1 else n_lat (fun i => decide (s.2 27 i = 2 ∧ s.2 28 i = v)) k) ∧ s' = s) := by
  have h46 : ∀ (k y w : Int), y = w → NP Z d 132 46 [some (xR 25), some (xI v), some (xI k)] [xI y] s (fun r s' => r = some w ∧ s' = s) := fun k y w h => n_at nb132_46 hd rfl ⟨by rw [h], rfl⟩
  have h37 : ∀ k : Int, NP Z d 132 37 [some (xR 25), some (xI v), some (xI k)] [] s (fun r s' => r = some (if v = 0 then -1 else k) ∧ s' = s) := fun k => by
    refine n_at nb132_37 hd rfl ⟨hv, fun z => ?_, fun z => h46 _ _ _ (by rw [if_pos z])⟩
    exact n_at nb132_45 hd rfl (h46 _ _ _ (by rw [if_neg z]))
  intro k
  induction k with
  | zero =>
    intro _
    exact n_at nb132_7 hd rfl ⟨⟨by decide, by decide⟩, fun _ => h37 _, fun z => absurd (by decide : ((0 : Nat) : Int) - 1 < 0) z⟩
  | succ k ih =>
    intro hk
    have e : ((k + 1 : Nat) : Int) - 1 = (k : Int) := by omega
    rw [e]
    have h31 : decide (s.2 27 k = 2 ∧ s.2 28 k = v) = false → NP Z d 132 31 [some (xR 25), some (xI v), some (xI (k : Int))] [] s (fun r s' => r = some (if v = 0 then -1 else n_lat (fun i => decide (s.2 27 i = 2 ∧ s.2 28 i = v)) (k + 1)) ∧ s' = s) := fun h => by
      have e2 : n_lat (fun i => decide (s.2 27 i = 2 ∧ s.2 28 i = v)) (k + 1) = n_lat (fun i => decide (s.2 27 i = 2 ∧ s.2 28 i = v)) k := by
        show (if decide (s.2 27 k = 2 ∧ s.2 28 k = v) = true then _ else _) = _
        rw [h]
        rfl
      rw [e2]
      exact n_at nb132_31 hd rfl (ih (by omega))
    refine n_at nb132_7 hd rfl ⟨⟨by omega, by omega⟩, fun z => ?_, fun _ => ⟨⟨by omega, by omega⟩, (hs _).1, ⟨by decide, by decide⟩, fun z => h31 ?_, fun z => ⟨⟨by omega, by omega⟩, (hs _).2, hv, fun z2 => ?_, fun z2 => h31 ?_⟩⟩⟩
    · omega
    · exact decide_eq_false (fun h => z h.1)
    · have e2 : n_lat (fun i => decide (s.2 27 i = 2 ∧ s.2 28 i = v)) (k + 1) = (k : Int) := by
        show (if decide (s.2 27 k = 2 ∧ s.2 28 k = v) = true then _ else _) = _
        rw [if_pos (decide_eq_true ⟨z, z2⟩)]
      rw [e2]
      exact h37 _
    · exact decide_eq_false (fun h => z2 h.2)
theorem ng132 {v : Int} (hd : 6 ≤ d) (hv : n_rng v) (hs : ∀ i, n_rng (s.2 27 i) ∧ n_rng (s.2 28 i)) (hu : 0 ≤ s.1 2 ∧ s.1 2 ≤ 16) : NG Z d 132 [xR 25, xI v] s (fun r s' => r = some (if v = 0 then -1 else n_lat (fun i => decide (s.2 27 i = 2 ∧ s.2 28 i = v)) (s.1 2).toNat) ∧ s' = s) := by
  refine n_G_of (L := [some (xR 25), some (xI v), none]) (by rw [nl132]; exact Nat.le_of_ble_eq_true rfl) (by rw [nl132]; rfl) ?_
  refine n_at nb132_0 hd rfl ?_
  have := n_l132 (Z := Z) hd hv hs (s.1 2).toNat (by omega)
  rw [show (((s.1 2).toNat : Nat) : Int) - 1 = s.1 2 - 1 from by omega] at this
  exact this
end N17
