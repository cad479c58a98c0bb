/-! WHERE A MACRO'S BODY BEGINS -/
def n_one (c : Int) : Bool := decide (¬ c = 32 ∧ ¬ c = 40 ∧ ¬ c = 41)
def n_bgn (c depth : Int) (within : Bool) : Bool := decide (depth = 1 ∧ (c = 40 ∨ (n_one c = true ∧ within = false)))
def n_4th (ch : Nat → Int) : Nat → Int → Int → Int → Bool → Int
  | 0, _, _, _, _ => 0
  | q + 1, k, n, depth, within => if (if n_bgn (ch k.toNat) depth within = true then n + 1 else n) = 4 then k else n_4th ch q (k + 1) (if n_bgn (ch k.toNat) depth within = true then n + 1 else n) (depth + (if ch k.toNat = 40 then 1 else if ch k.toNat = 41 then -1 else 0)) (n_one (ch k.toNat) && decide (depth = 1))
section N26
variable {Z : Nat → List Int32} {d : Nat} {s : nS}
theorem n_l140 (hd : 6 ≤ d) (ht : 0 ≤ s.1 1 ∧ s.1 1 ≤ 120) (hc : ∀ i, 0 ≤ s.2 26 i ∧ s.2 26 i < 128) (R : Int) : ∀ (q : Nat) (k n depth : Int) (within : Bool) (o5 o6 o7 : Option nV), 0 ≤ k → k + q = s.1 1 → (0 ≤ n ∧ n < 4) → (-k ≤ depth ∧ depth ≤ k) → n_4th (s.2 26) q k n depth within = R → NP Z d 140 9 [some (xR 25), some (xI n), some (xI depth), some (xI (n_T within)), some (xI k), o5, o6, o7] [] s (fun r s' => r = some R ∧ s' = s) := by
  intro q
  induction q with
  | zero =>
    intro k n depth within o5 o6 o7 h0 hq hn hdp hR
    have hR : 0 = R := hR
    subst hR
    refine n_at nb140_9 hd rfl ⟨⟨by omega, by omega⟩, ⟨by omega, by omega⟩, fun _ => ?_, fun z => ?_⟩
    · exact n_at nb140_152 hd rfl ⟨rfl, rfl⟩
    · omega
  | succ q ih =>
    intro k n depth within o5 o6 o7 h0 hq hn hdp hR
    have hcb := hc k.toNat
    have hR : (if (if n_bgn (s.2 26 k.toNat) depth within = true then n + 1 else n) = 4 then k else n_4th (s.2 26) q (k + 1) (if n_bgn (s.2 26 k.toNat) depth within = true then n + 1 else n) (depth + (if s.2 26 k.toNat = 40 then 1 else if s.2 26 k.toNat = 41 then -1 else 0)) (n_one (s.2 26 k.toNat) && decide (depth = 1))) = R := hR
    have ihh := fun n' depth' within' o5 o6 o7 a b e => ih (k + 1) n' depth' within' o5 o6 o7 (by omega) (by omega) a b e
    generalize hcc : s.2 26 k.toNat = c at hcb hR
    have hcr : n_rng c := ⟨by omega, by omega⟩
    have hdr : n_rng depth := ⟨by omega, by omega⟩
    -- behind the count: n'
    have h111 : ∀ n' : Int, n' = (if n_bgn c depth within = true then n + 1 else n) → NP Z d 140 111 [some (xR 25), some (xI n), some (xI depth), some (xI (n_T (n_one c && decide (depth = 1)))), some (xI k), some (xI c), some (xI (n_T (n_one c))), some (xI (n_T (n_bgn c depth within)))] [xI n'] s (fun r s' => r = some R ∧ s' = s) := by
      intro n' hn'
      rw [← hn'] at hR
      have hnb : 0 ≤ n' ∧ n' ≤ 4 := by rw [hn']; split <;> omega
      refine n_at nb140_111 hd rfl ⟨⟨by omega, by omega⟩, ⟨by decide, by decide⟩, fun z => ?_, fun z => ?_⟩
      · rw [if_neg z] at hR
        have h144 : ∀ x : Int, x = (if c = 40 then 1 else if c = 41 then -1 else 0) → NP Z d 140 144 [some (xR 25), some (xI n'), some (xI depth), some (xI (n_T (n_one c && decide (depth = 1)))), some (xI k), some (xI c), some (xI (n_T (n_one c))), some (xI (n_T (n_bgn c depth within)))] [xI x, xI depth] s (fun r s' => r = some R ∧ s' = s) := by
          intro x hx
          rw [← hx] at hR
          have hxb : -1 ≤ x ∧ x ≤ 1 := by rw [hx]; split <;> (try split) <;> omega
          refine n_at nb140_144 hd rfl ?_
          exact ihh n' (depth + x) _ _ _ _ ⟨by omega, by omega⟩ ⟨by omega, by omega⟩ hR
        refine n_at nb140_120 hd rfl ⟨hcr, ⟨by decide, by decide⟩, fun z1 => ?_, fun z1 => h144 1 (by rw [if_pos z1])⟩
        refine n_at nb140_132 hd rfl ⟨hcr, ⟨by decide, by decide⟩, fun z2 => ?_, fun z2 => h144 (-1) (by rw [if_neg z1, if_pos z2])⟩
        exact n_at nb140_143 hd rfl (h144 0 (by rw [if_neg z1, if_neg z2]))
      · rw [if_pos z] at hR
        exact ⟨by rw [hR], rfl⟩
    have h98 : ∀ w : Bool, w = (n_one c && decide (depth = 1)) → NP Z d 140 98 [some (xR 25), some (xI n), some (xI depth), some (xI (n_T within)), some (xI k), some (xI c), some (xI (n_T (n_one c))), some (xI (n_T (n_bgn c depth within)))] [xI (n_T w)] s (fun r s' => r = some R ∧ s' = s) := by
      intro w hw
      subst hw
      refine n_at nb140_98 hd rfl ⟨n_rngT _, fun z => ?_, fun z => h111 _ (by rw [if_pos (n_T1 z)])⟩
      exact n_at nb140_110 hd rfl (h111 _ (by rw [n_T0 z]; rfl))
    have h81 : ∀ w : Bool, w = n_bgn c depth within → NP Z d 140 81 [some (xR 25), some (xI n), some (xI depth), some (xI (n_T within)), some (xI k), some (xI c), some (xI (n_T (n_one c))), o7] [xI (n_T w)] s (fun r s' => r = some R ∧ s' = s) := by
      intro w hw
      subst hw
      have h97 : (n_one c && decide (depth = 1)) = false → NP Z d 140 97 [some (xR 25), some (xI n), some (xI depth), some (xI (n_T within)), some (xI k), some (xI c), some (xI (n_T (n_one c))), some (xI (n_T (n_bgn c depth within)))] [] s (fun r s' => r = some R ∧ s' = s) := fun h => n_at nb140_97 hd rfl (h98 false h.symm)
      refine n_at nb140_81 hd rfl ⟨n_rngT _, fun z => h97 (by rw [n_T0 z]; rfl), fun z => ⟨hdr, ⟨by decide, by decide⟩, fun z2 => h97 (by rw [decide_eq_false z2]; simp), fun z2 => h98 true (by rw [n_T1 z, decide_eq_true z2]; rfl)⟩⟩
    have h53 : ∀ w : Bool, w = n_one c → NP Z d 140 53 [some (xR 25), some (xI n), some (xI depth), some (xI (n_T within)), some (xI k), some (xI c), o6, o7] [xI (n_T w)] s (fun r s' => r = some R ∧ s' = s) := by
      intro w hw
      subst hw
      have h76 : n_bgn c depth within = true → NP Z d 140 76 [some (xR 25), some (xI n), some (xI depth), some (xI (n_T within)), some (xI k), some (xI c), some (xI (n_T (n_one c))), o7] [] s (fun r s' => r = some R ∧ s' = s) := fun h => n_at nb140_76 hd rfl (h81 true h.symm)
      have h80 : n_bgn c depth within = false → NP Z d 140 80 [some (xR 25), some (xI n), some (xI depth), some (xI (n_T within)), some (xI k), some (xI c), some (xI (n_T (n_one c))), o7] [] s (fun r s' => r = some R ∧ s' = s) := fun h => n_at nb140_80 hd rfl (h81 false h.symm)
      refine n_at nb140_53 hd rfl ⟨hdr, ⟨by decide, by decide⟩, fun z => h80 (decide_eq_false (fun h => z h.1)), fun z => ⟨hcr, ⟨by decide, by decide⟩, fun z1 => h76 (decide_eq_true ⟨z, Or.inl z1⟩), fun z1 => ⟨n_rngT _, fun z2 => h80 (decide_eq_false (fun h => ?_)), fun z2 => ⟨n_rngT _, fun z3 => h80 (decide_eq_false (fun h => ?_)), fun z3 => h76 (decide_eq_true ⟨z, Or.inr ⟨n_T1 z2, n_T0 z3⟩⟩)⟩⟩⟩⟩
      · rcases h.2 with h2 | h2
        · exact z1 h2
        · rw [n_T0 z2] at h2; exact absurd h2.1 (by decide)
      · rcases h.2 with h2 | h2
        · exact z1 h2
        · rw [n_T1 z3] at h2; exact absurd h2.2 (by decide)
    have h52 : n_one c = false → NP Z d 140 52 [some (xR 25), some (xI n), some (xI depth), some (xI (n_T within)), some (xI k), some (xI c), o6, o7] [] s (fun r s' => r = some R ∧ s' = s) := fun h => n_at nb140_52 hd rfl (h53 false h.symm)
    refine n_at nb140_9 hd rfl ⟨⟨by omega, by omega⟩, ⟨by omega, by omega⟩, fun z => ?_, fun _ => ⟨⟨h0, by omega⟩, ?_⟩⟩
    · omega
    rw [hcc]
    exact ⟨hcr, ⟨by decide, by decide⟩, fun z => h52 (decide_eq_false (fun h => h.1 z)), fun z1 => ⟨hcr, ⟨by decide, by decide⟩, fun z => h52 (decide_eq_false (fun h => h.2.1 z)), fun z2 => ⟨hcr, ⟨by decide, by decide⟩, fun z => h52 (decide_eq_false (fun h => h.2.2 z)), fun z3 => h53 true (decide_eq_true ⟨z1, z2, z3⟩).symm⟩⟩⟩
theorem ng140 (hd : 6 ≤ d) (ht : 0 ≤ s.1 1 ∧ s.1 1 ≤ 120) (hc : ∀ i, 0 ≤ s.2 26 i ∧ s.2 26 i < 128) : NG Z d 140 [xR 25] s (fun r s' => r = some (n_4th (s.2 26) (s.1 1).toNat 0 0 0 false) ∧ s' = s) := by
  refine n_G_of (L := [some (xR 25), none, none, none, none, none, none, none]) (by rw [nl140]; exact Nat.le_of_ble_eq_true rfl) (by rw [nl140]; rfl) ?_
  refine n_at nb140_0 hd rfl ?_
  exact n_l140 hd ht hc _ (s.1 1).toNat 0 0 0 false none none none (by omega) (by omega) ⟨by omega, by omega⟩ ⟨by omega, by omega⟩ rfl
end N26
