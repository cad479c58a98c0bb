/-! THE REFERENCE READS A SYMBOL -/
section N9
variable {Z : Nat → List Int32} {d : Nat} {s : nS}
/-- behind the name: a parameter's argument, or a new form -/
theorem n_l119b {m g v : Int} (hd : 6 ≤ d) (hm : -1 ≤ m ∧ m < 16) (hv : n_rng v) (hp : 0 ≤ m → 0 ≤ s.2 29 m.toNat ∧ s.2 29 m.toNat ≤ 4) (hw : ∀ i, n_rng (s.2 35 i)) (hf : 0 ≤ s.1 17 ∧ s.1 17 < 1300) (Post : nA → nS → Prop)
    (hN : Post (some (s.1 17)) (n_upd s.1 17 (s.1 17 + 1), n_updA (n_updA s.2 38 (s.1 17).toNat 1) 39 (s.1 17).toNat v)) :
    ∀ (ys : List Int) (c k : Int), n_isch s.2 c ys → 0 ≤ k → k + ys.length < 100000 → (0 ≤ m → s.2 29 m.toNat ≤ k + ys.length) → (∀ y ∈ ys, Post (some (s.2 40 y.toNat)) s) → NP Z (d + 1) 119 92 [some (xR 25), some (xI m), some (xI g), some (xI v), some (xI c), some (xI k)] [] s Post := by
  have h145 : ∀ c k : Int, NP Z (d + 1) 119 145 [some (xR 25), some (xI m), some (xI g), some (xI v), some (xI c), some (xI k)] [] s Post := by
    intro c k
    refine n_at nb119_145 (by omega) rfl ?_
    refine n_iv (vs := [xR 25, xI 1, xI v]) (r := []) nn116 (by simp) rfl nc116 (ng116 (by omega) hf) (fun r s' hr => ?_)
    obtain ⟨rfl, rfl⟩ := hr
    exact hN
  intro ys
  induction ys with
  | nil =>
    intro c k hc h0 hl hle _
    refine n_at nb119_92 (by omega) rfl ⟨⟨by omega, by omega⟩, fun _ => h145 _ _, fun z => ?_⟩
    have h1 := hp (by omega)
    have h2 := hle (by omega)
    simp only [List.length_nil] at h2 hl
    refine ⟨⟨by omega, by omega⟩, ⟨by omega, by omega⟩, ⟨by omega, by omega⟩, fun _ => h145 _ _, fun z2 => ?_⟩
    omega
  | cons y ys ih =>
    intro c k hc h0 hl hle hP
    obtain ⟨rfl, g1, g2, g3⟩ := hc
    simp only [List.length_cons] at hl hle
    refine n_at nb119_92 (by omega) rfl ⟨⟨by omega, by omega⟩, fun _ => h145 _ _, fun z => ?_⟩
    have h1 := hp (by omega)
    have h2 := hle (by omega)
    refine ⟨⟨by omega, by omega⟩, ⟨by omega, by omega⟩, ⟨by omega, by omega⟩, fun _ => h145 _ _, fun z2 => ?_⟩
    refine ⟨⟨by omega, by omega⟩, hw _, hv, fun z3 => ?_, fun z3 => ?_⟩
    · refine n_at nb119_130 (by omega) rfl ⟨⟨g1, g2⟩, ?_⟩
      exact ih _ (k + 1) g3 (by omega) (by omega) (fun hm0 => by have := hle hm0; omega) (fun y' hy' => hP y' (List.mem_cons_of_mem _ hy'))
    · exact ⟨⟨g1, g2⟩, hP _ List.mem_cons_self⟩
/-- the letters of a name -/
theorem n_l119a {m g : Int} (hd : 6 ≤ d) (h : n_TX s m) (Post : nA → nS → Prop) : ∀ (j : Nat), j ≤ 3 → ∀ (S : Nat → Int) (v : Int), S = n_upd s.1 23 (S 23) → 0 ≤ S 23 → S 23 ≤ 130 → n_rng v →
    (∀ (v k : Int), n_rng v → NP Z (d + 1) 119 86 [some (xR 25), some (xI m), some (xI g), some (xI v), some (xI k), none] [] (n_upd s.1 23 (if c_let (v % 256) = true then n_nl (n_at1 s m) j (S 23) else S 23), s.2) Post → True) →
    (∀ (v' k : Int), n_rng v' → NP Z (d + 1) 119 86 [some (xR 25), some (xI m), some (xI g), some (xI v'), some (xI k), none] [] (n_upd s.1 23 (if c_let (v % 256) = true then n_nl (n_at1 s m) j (S 23) else S 23), s.2) Post) → NP Z (d + 1) 119 23 [some (xR 25), some (xI m), some (xI g), some (xI v), some (xI ((4 : Int) - j)), none] [] (S, s.2) Post
  | 0, _, S, v, hS, h1, h2, hv, _, hP => by
    refine n_at nb119_23 (by omega) rfl ⟨⟨by decide, by decide⟩, ⟨by decide, by decide⟩, fun _ => ?_, fun z => absurd (show (4 : Int) ≤ (4 : Int) - (0 : Nat) by decide) z⟩
    have := hP v ((4 : Int) - (0 : Nat)) hv
    have e : (if c_let (v % 256) = true then n_nl (n_at1 s m) 0 (S 23) else S 23) = S 23 := by split <;> rfl
    rw [e, ← hS] at this
    exact this
  | j + 1, hj, S, v, hS, h1, h2, hv, _, hP => by
    have e1 : S 1 = s.1 1 := by rw [hS]; rfl
    have hb := n_at1_b (k := S 23) h
    refine n_at nb119_23 (by omega) rfl ⟨⟨by omega, by omega⟩, ⟨by decide, by decide⟩, fun z => ?_, fun _ => ?_⟩
    · omega
    refine n_is (vs := [xI (v % 256)]) (r := []) nn114 (by simp) (ng114 (by omega) ⟨by omega, by omega⟩) (fun r s' hr => ?_)
    obtain ⟨rfl, rfl⟩ := hr
    refine ⟨n_rngT _, fun z => ?_, fun z => ?_⟩
    · have hc : c_let (v % 256) = false := by
        cases hq : c_let (v % 256)
        · rfl
        · rw [hq] at z; exact absurd z (by decide)
      have := hP v ((4 : Int) - ((j + 1 : Nat) : Int)) hv
      rw [hc, if_neg (by decide), ← hS] at this
      exact this
    have hc : c_let (v % 256) = true := by
      cases hq : c_let (v % 256)
      · rw [hq] at z; exact absurd rfl z
      · rfl
    refine n_iv (vs := [xR 25, xI m, xI (S 23)]) (r := []) nn112 (by simp) rfl nc112 (ng112p (by omega) h e1 ⟨h1, by omega⟩) (fun r s' hr => ?_)
    obtain ⟨rfl, rfl⟩ := hr
    refine n_is (vs := [xI (n_at1 s m (S 23))]) (r := []) nn114 (by simp) (ng114 (by omega) ⟨by omega, by omega⟩) (fun r s' hr => ?_)
    obtain ⟨rfl, rfl⟩ := hr
    refine ⟨n_rngT _, fun z2 => ?_, fun z2 => ?_⟩
    · have hc2 : c_let (n_at1 s m (S 23)) = false := by
        cases hq : c_let (n_at1 s m (S 23))
        · rfl
        · rw [hq] at z2; exact absurd z2 (by decide)
      have := hP v ((4 : Int) - ((j + 1 : Nat) : Int)) hv
      have e2 : n_nl (n_at1 s m) (j + 1) (S 23) = S 23 := by
        show (if c_let (n_at1 s m (S 23)) = true then _ else _) = _
        rw [hc2]; rfl
      rw [e2, if_pos hc, ← hS] at this
      exact this
    have hc2 : c_let (n_at1 s m (S 23)) = true := by
      cases hq : c_let (n_at1 s m (S 23))
      · rw [hq] at z2; exact absurd rfl z2
      · rfl
    refine n_iv (vs := [xR 25, xI m, xI (S 23)]) (r := [xI (n_shl v 8)]) nn112 (by simp) rfl nc112 (ng112p (by omega) h e1 ⟨h1, by omega⟩) (fun r s' hr => ?_)
    obtain ⟨rfl, rfl⟩ := hr
    have e : (4 : Int) - ((j + 1 : Nat) : Int) + 1 = 4 - (j : Nat) := by omega
    show NP Z (d + 1) 119 23 [some (xR 25), some (xI m), some (xI g), some (xI (n_or (n_shl v 8) (n_at1 s m (S 23)))), some (xI ((4 : Int) - ((j + 1 : Nat) : Int) + 1)), none] [] (n_upd S 23 (S 23 + 1), s.2) Post
    rw [e]
    have e23 : n_upd S 23 (S 23 + 1) 23 = S 23 + 1 := rfl
    have elow : n_or (n_shl v 8) (n_at1 s m (S 23)) % 256 = n_at1 s m (S 23) := n_or_low ⟨hb.1, by omega⟩
    have hlt : S 23 < n_lenT s m := by
      apply Classical.byContradiction
      intro hcn
      rw [n_at1_0 (by omega)] at hc2
      exact absurd hc2 (by decide)
    have hlb := n_len_b h
    refine n_l119a hd h Post j (by omega) _ _ ?_ (by rw [e23]; omega) (by rw [e23]; omega) (n_rng_or _ _) (fun _ _ _ _ => trivial) ?_
    · rw [e23]
      conv => lhs; rw [hS]
      funext k
      unfold n_upd
      by_cases hk : k = 23 <;> simp [hk]
    · rw [e23, elow, if_pos hc2]
      intro v' k hv'
      have := hP v' k hv'
      have e2 : n_nl (n_at1 s m) (j + 1) (S 23) = n_nl (n_at1 s m) j (S 23 + 1) := by
        show (if c_let (n_at1 s m (S 23)) = true then _ else _) = _
        rw [if_pos hc2]
      rw [if_pos hc, e2] at this
      exact this
/-- where a symbol ends -/
def n_symEnd (ch : Int → Int) (p : Int) : Int := if c_let (ch p) = true then n_nl ch 3 (p + 1) else p + 1
theorem ng119 {m g : Int} {ys : List Int} (hd : 6 ≤ d) (h : n_TX s m) (hf : 0 ≤ s.1 17 ∧ s.1 17 < 1300) (hpp : 0 ≤ s.1 23 ∧ s.1 23 ≤ 120) (hp : 0 ≤ m → 0 ≤ s.2 29 m.toNat ∧ s.2 29 m.toNat ≤ 4 ∧ s.2 29 m.toNat ≤ ys.length) (hw : ∀ i, n_rng (s.2 35 i)) (hg : n_isch s.2 g ys) (hl : ys.length < 10000) : NG Z (d + 1) 119 [xR 25, xI m, xI g] s (fun r s' => (r = some (s.1 17) ∧ ∃ v, n_rng v ∧ s' = (n_upd (n_upd s.1 23 (n_symEnd (n_at1 s m) (s.1 23))) 17 (s.1 17 + 1), n_updA (n_updA s.2 38 (s.1 17).toNat 1) 39 (s.1 17).toNat v)) ∨ (∃ y ∈ ys, r = some (s.2 40 y.toNat) ∧ s' = (n_upd s.1 23 (n_symEnd (n_at1 s m) (s.1 23)), s.2))) := by
  have hb := n_at1_b (k := s.1 23) h
  have hm := h.2.1
  refine n_G_of (L := [some (xR 25), some (xI m), some (xI g), none, none, none]) (by rw [nl119]; exact Nat.le_of_ble_eq_true rfl) (by rw [nl119]; rfl) ?_
  refine n_at nb119_0 (by omega) rfl ?_
  refine n_iv (vs := [xR 25, xI m, xI (s.1 23)]) (r := []) nn112 (by simp) rfl nc112 (ng112p (S := s.1) (by omega) h rfl ⟨hpp.1, by omega⟩) (fun r s' hr => ?_)
  obtain ⟨rfl, rfl⟩ := hr
  have e256 : n_at1 s m (s.1 23) % 256 = n_at1 s m (s.1 23) := by omega
  refine n_l119a hd h _ 3 (by omega) (n_upd s.1 23 (s.1 23 + 1)) _ (by funext k; unfold n_upd; by_cases hk : k = 23 <;> simp [hk]) (by show 0 ≤ s.1 23 + 1; omega) (by show s.1 23 + 1 ≤ 130; omega) ⟨by omega, by omega⟩ (fun _ _ _ _ => trivial) ?_
  intro v k hv
  rw [e256]
  have eS : (if c_let (n_at1 s m (s.1 23)) = true then n_nl (n_at1 s m) 3 (n_upd s.1 23 (s.1 23 + 1) 23) else n_upd s.1 23 (s.1 23 + 1) 23) = n_symEnd (n_at1 s m) (s.1 23) := rfl
  rw [eS]
  refine n_at nb119_86 (by omega) rfl ?_
  exact n_l119b (s := (n_upd s.1 23 (n_symEnd (n_at1 s m) (s.1 23)), s.2)) hd hm hv (fun h0 => ⟨(hp h0).1, (hp h0).2.1⟩) hw hf _ (Or.inl ⟨rfl, v, hv, rfl⟩) ys g 0 hg (by omega) (by omega) (fun h0 => by have := (hp h0).2.2; show s.2 29 m.toNat ≤ _; omega) (fun y hy => Or.inr ⟨y, hy, rfl, rfl⟩)
end N9
