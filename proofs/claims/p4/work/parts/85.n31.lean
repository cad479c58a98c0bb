section N31
variable {Z : Nat → List Int32} {d : Nat} {s : nS} {f : Int} {xs : List Int}
theorem n_l126a (hd : 6 ≤ d) (hf : 0 ≤ f ∧ f < 1300) (hx : n_isch s.2 (n_fst s f) xs) (hl : xs.length < 10000) (hh : ∀ x ∈ xs, (0 ≤ s.2 40 x.toNat ∧ s.2 40 x.toNat < 1300) ∧ n_rng (s.2 38 (s.2 40 x.toNat).toNat) ∧ (s.2 38 (s.2 40 x.toNat).toNat = 1 → n_rng (s.2 39 (s.2 40 x.toNat).toNat))) : ∀ (q : Nat) (t : nS) (k : Int) (o4 o5 : Option nV), 0 ≤ k → k + q = xs.length → n_PI s f xs t k → NP Z (d + 2) 126 39 [some (xR 25), some (xI f), some (xI (xs.length : Int)), some (xI k), o4, o5] [] t (fun r s' => r = some (xs.length : Int) ∧ ∃ k' : Int, (0 ≤ k' ∧ k' ≤ xs.length) ∧ n_PI s f xs s' k' ∧ (s'.1 28 = 0 → k' = xs.length)) := by
  intro q
  induction q with
  | zero =>
    intro t k o4 o5 h0 hk hP
    refine n_at nb126_39 (by omega) rfl ⟨⟨by omega, by omega⟩, ⟨by omega, by omega⟩, fun _ => ?_, fun z => by omega⟩
    exact n_at nb126_148 (by omega) rfl ⟨rfl, k, ⟨by omega, by omega⟩, hP, fun _ => by omega⟩
  | succ q ih =>
    intro t k o4 o5 h0 hk hP
    obtain ⟨p1, p2, p3, p4, p5⟩ := id hP
    have e38 : ∀ i, t.2 38 i = s.2 38 i := fun i => p1 38 i (by decide)
    have e39 : ∀ i, t.2 39 i = s.2 39 i := fun i => p1 39 i (by decide)
    have e40 : ∀ i, t.2 40 i = s.2 40 i := fun i => p1 40 i (by decide)
    refine n_at nb126_39 (by omega) rfl ⟨⟨by omega, by omega⟩, ⟨by omega, by omega⟩, fun z => by omega, fun _ => ⟨⟨by omega, by omega⟩, fun z => ?_, fun z => ?_⟩⟩
    · exact n_at nb126_148 (by omega) rfl ⟨rfl, k, ⟨by omega, by omega⟩, hP, fun h => absurd h z⟩
    obtain ⟨c1, c2, c3⟩ := p5 z
    have hx2 : n_isch s.2 (s.2 39 f.toNat) xs := by
      have := hx
      unfold n_fst at this
      rw [if_pos c1] at this
      exact this
    have hlt : k.toNat < xs.length := by omega
    have hk' : xs[k.toNat]? = some xs[k.toNat] := List.getElem?_eq_getElem hlt
    have hmem := List.mem_of_getElem? hk'
    generalize xs[k.toNat] = x at hk' hmem
    obtain ⟨e1, e2, e3⟩ := hh x hmem
    refine n_iv (vs := [xR 25, xI f, xI k]) (r := []) nn122 (by simp) rfl nc122 (ng122 (s := t) (d := d + 1) (by omega) hf ⟨h0, by omega⟩ (by rw [e39]; exact n_isch_cg (fun i => p1 41 i (by decide)) xs _ hx2) hk') (fun r s' hr => ?_)
    rw [hr.1, hr.2, e40]
    -- behind the names' comparison
    have h130 : ∀ (t' : nS) (j : Int), n_PI s f xs t' k → (t'.1 28 = 0 → s.2 38 (s.2 40 x.toNat).toNat = 1) → NP Z (d + 2) 126 130 [some (xR 25), some (xI f), some (xI (xs.length : Int)), some (xI k), some (xI (s.2 40 x.toNat)), some (xI j)] [] t' (fun r s' => r = some (xs.length : Int) ∧ ∃ k' : Int, (0 ≤ k' ∧ k' ≤ xs.length) ∧ n_PI s f xs s' k' ∧ (s'.1 28 = 0 → k' = xs.length)) := by
      intro t' j hP' hb'
      obtain ⟨r1, r2, r3, r4, r5⟩ := id hP'
      refine n_at nb126_130 (by omega) rfl ⟨e1, ?_⟩
      refine n_iv (vs := [xR 25, xI (t'.2 39 (s.2 40 x.toNat).toNat), xI k]) (r := []) nn127 (by simp) rfl nc127 (ng127 (s := t') (d := d + 1) (by omega) ⟨by omega, by omega⟩) (fun r s' hr => ?_)
      rw [hr.1, hr.2]
      refine ih _ (k + 1) _ _ (by omega) (by omega) ⟨fun a i ha => ?_, fun j hj => ?_, r3, ?_, fun hb => ?_⟩
      · show n_updA (n_updA t'.2 48 _ _) 49 _ _ a i = _
        rw [n_ua_ne ha.2, n_ua_ne ha.1]
        exact r1 a i ha
      · show n_upd t'.1 32 _ j = _
        rw [n_u_ne hj.2]
        exact r2 j hj
      · show t'.1 32 + 1 = k + 1
        omega
      · have hb : t'.1 28 = 0 := hb
        obtain ⟨g1, g2, g3⟩ := r5 hb
        refine ⟨g1, g2, fun i hi => ?_⟩
        dsimp only
        rw [n_ua_eq, n_ua_ne (show 49 ≠ 48 by decide), n_ua_ne (show 48 ≠ 49 by decide), n_ua_eq, r4]
        by_cases hq : i = k.toNat
        · rw [if_pos hq, if_pos hq]
          refine ⟨fun y hy => ?_, by omega, ?_⟩
          · rw [hq, hk'] at hy
            cases hy
            exact hb' hb
          · rw [r1 39 _ (by decide)]
            exact e3 (hb' hb)
        · rw [if_neg hq, if_neg hq]
          exact g3 i (by omega)
    have h74 : ∀ v : Bool, (v = false → s.2 38 (s.2 40 x.toNat).toNat = 1) → NP Z (d + 2) 126 74 [some (xR 25), some (xI f), some (xI (xs.length : Int)), some (xI k), some (xI (s.2 40 x.toNat)), o5] [xI (n_T v), xR 25] t (fun r s' => r = some (xs.length : Int) ∧ ∃ k' : Int, (0 ≤ k' ∧ k' ≤ xs.length) ∧ n_PI s f xs s' k' ∧ (s'.1 28 = 0 → k' = xs.length)) := by
      intro v hv
      refine n_at nb126_74 (by omega) rfl ⟨n_T01 v, ?_⟩
      refine n_l126b hd hf ⟨h0, by omega, by omega⟩ hx2 (fun x hx => ⟨(hh x hx).1, (hh x hx).2.2⟩) e1 _ h130 k.toNat _ 0 (by omega) (by omega) (n_PI_b hP (n_T01 v) (fun _ => z)) (fun hb => ?_)
      have hb : n_T v = 0 := hb
      have h1 := hv (n_T0 hb)
      exact ⟨h1, e3 h1⟩
    refine n_iv (vs := [xR 25, xI (s.2 40 x.toNat)]) (r := [xR 25]) nn124 (by simp) rfl nc124 (ng124 (s := t) (d := d) hd e1 (by rw [e38]; exact e2) (by rw [e38, e39]; exact e3)) (fun r s' hr => ?_)
    obtain ⟨⟨v, e5, e6⟩, e7⟩ := hr
    rw [e5, e7]
    rw [e38] at e6
    refine ⟨n_rngT v, fun z2 => ?_, fun z2 => h74 true (fun h => absurd h (by decide))⟩
    exact n_at nb126_73 (by omega) rfl (h74 false (fun _ => e6 (n_T1 z2)))
theorem ng126 (hd : 6 ≤ d) (hf : 0 ≤ f ∧ f < 1300) (hkf : n_rng (s.2 38 f.toNat)) (hx : n_isch s.2 (n_fst s f) xs) (hl : xs.length < 10000) (hh : ∀ x ∈ xs, (0 ≤ s.2 40 x.toNat ∧ s.2 40 x.toNat < 1300) ∧ n_rng (s.2 38 (s.2 40 x.toNat).toNat) ∧ (s.2 38 (s.2 40 x.toNat).toNat = 1 → n_rng (s.2 39 (s.2 40 x.toNat).toNat))) (hb : s.1 28 = 0 ∨ s.1 28 = 1) (h32 : s.1 32 = 0) : NG Z (d + 2) 126 [xR 25, xI f] s (fun r s' => r = some (xs.length : Int) ∧ ∃ k' : Int, (0 ≤ k' ∧ k' ≤ xs.length) ∧ n_PI s f xs s' k' ∧ (s'.1 28 = 0 → k' = xs.length)) := by
  have h34 : ∀ v : Bool, (v = false → s.2 38 f.toNat = 2 ∧ xs.length ≤ 4) → NP Z (d + 2) 126 34 [some (xR 25), some (xI f), some (xI (xs.length : Int)), none, none, none] [xI (n_T v), xR 25] s (fun r s' => r = some (xs.length : Int) ∧ ∃ k' : Int, (0 ≤ k' ∧ k' ≤ xs.length) ∧ n_PI s f xs s' k' ∧ (s'.1 28 = 0 → k' = xs.length)) := by
    intro v hv
    refine n_at nb126_34 (by omega) rfl ⟨n_T01 v, ?_⟩
    refine n_l126a hd hf hx hl hh xs.length _ 0 none none (by omega) (by omega) ⟨fun _ _ _ => rfl, fun j hj => n_u_ne hj.1, n_T01 v, h32, fun hz => ?_⟩
    have hz : n_T v = 0 := hz
    have := hv (n_T0 hz)
    exact ⟨this.1, this.2, fun i hi => by omega⟩
  have h29 : NP Z (d + 2) 126 29 [some (xR 25), some (xI f), some (xI (xs.length : Int)), none, none, none] [xR 25] s (fun r s' => r = some (xs.length : Int) ∧ ∃ k' : Int, (0 ≤ k' ∧ k' ≤ xs.length) ∧ n_PI s f xs s' k' ∧ (s'.1 28 = 0 → k' = xs.length)) := n_at nb126_29 (by omega) rfl (h34 true (fun h => absurd h (by decide)))
  refine n_G_of (L := [some (xR 25), some (xI f), none, none, none, none]) (by rw [nl126]; exact Nat.le_of_ble_eq_true rfl) (by rw [nl126]; rfl) ?_
  refine n_at nb126_0 (by omega) rfl ?_
  refine n_iv (vs := [xR 25, xI f]) (r := []) nn121 (by simp) rfl nc121 (ng121 (by omega) hf hkf hx (by omega)) (fun r s' hr => ?_)
  rw [hr.1, hr.2]
  refine ⟨⟨by omega, by omega⟩, fun _ => h29, fun z => ⟨hf, hkf, ⟨by decide, by decide⟩, fun _ => h29, fun z2 => ⟨⟨by omega, by omega⟩, ⟨by decide, by decide⟩, fun z3 => ?_, fun _ => h29⟩⟩⟩
  exact n_at nb126_33 (by omega) rfl (h34 false (fun _ => ⟨z2, by omega⟩))
end N31
