/-! A LIST OF PARAMETERS -/
theorem n_isch_cg {A B : Nat → Nat → Int} (h : ∀ i, B 41 i = A 41 i) : ∀ (xs : List Int) (c : Int), n_isch A c xs → n_isch B c xs
  | [], c, hc => hc
  | x :: xs, c, hc => ⟨hc.1, hc.2.1, hc.2.2.1, by rw [h]; exact n_isch_cg h xs _ hc.2.2.2⟩
/-- behind k of them -/
def n_PI (s : nS) (f : Int) (xs : List Int) (t : nS) (k : Int) : Prop := (∀ a i, a ≠ 48 ∧ a ≠ 49 → t.2 a i = s.2 a i) ∧ (∀ j, j ≠ 28 ∧ j ≠ 32 → t.1 j = s.1 j) ∧ (t.1 28 = 0 ∨ t.1 28 = 1) ∧ t.1 32 = k ∧ (t.1 28 = 0 → s.2 38 f.toNat = 2 ∧ xs.length ≤ 4 ∧ (∀ i : Nat, (i : Int) < k → (∀ y, xs[i]? = some y → s.2 38 (s.2 40 y.toNat).toNat = 1) ∧ t.2 49 i = i ∧ n_rng (t.2 48 i)))
section N30
variable {Z : Nat → List Int32} {d : Nat} {s : nS} {f : Int} {xs : List Int}
theorem n_PI_b {t : nS} {k v : Int} (h : n_PI s f xs t k) (hv : v = 0 ∨ v = 1) (h2 : v = 0 → t.1 28 = 0) : n_PI s f xs (n_upd t.1 28 v, t.2) k := by
  obtain ⟨h1, h3, h4, h5, h6⟩ := h
  exact ⟨h1, fun j hj => by show n_upd t.1 28 v j = _; rw [n_u_ne hj.1]; exact h3 j hj, hv, h5, fun hb => h6 (h2 hb)⟩
/-- none of the earlier ones has that name -/
theorem n_l126b {n k y : Int} (hd : 6 ≤ d) (hf : 0 ≤ f ∧ f < 1300) (hk : 0 ≤ k ∧ k ≤ 4 ∧ k < xs.length) (hx : n_isch s.2 (s.2 39 f.toNat) xs) (hh : ∀ x ∈ xs, (0 ≤ s.2 40 x.toNat ∧ s.2 40 x.toNat < 1300) ∧ (s.2 38 (s.2 40 x.toNat).toNat = 1 → n_rng (s.2 39 (s.2 40 x.toNat).toNat))) (hy : 0 ≤ y ∧ y < 1300) (Post : nA → nS → Prop) (h130 : ∀ (t : nS) (j : Int), n_PI s f xs t k → (t.1 28 = 0 → s.2 38 y.toNat = 1) → NP Z (d + 2) 126 130 [some (xR 25), some (xI f), some (xI n), some (xI k), some (xI y), some (xI j)] [] t Post) : ∀ (q : Nat) (t : nS) (j : Int), 0 ≤ j → j + q = k → n_PI s f xs t k → (t.1 28 = 0 → s.2 38 y.toNat = 1 ∧ n_rng (s.2 39 y.toNat)) → NP Z (d + 2) 126 80 [some (xR 25), some (xI f), some (xI n), some (xI k), some (xI y), some (xI j)] [] t Post := by
  intro q
  induction q with
  | zero =>
    intro t j h0 hj hP hb
    exact n_at nb126_80 (by omega) rfl ⟨⟨by omega, by omega⟩, ⟨by omega, by omega⟩, fun _ => h130 t j hP (fun h => (hb h).1), fun z => by omega⟩
  | succ q ih =>
    intro t j h0 hj hP hb
    obtain ⟨p1, p2, p3, p4, p5⟩ := id hP
    refine n_at nb126_80 (by omega) rfl ⟨⟨by omega, by omega⟩, ⟨by omega, by omega⟩, fun z => by omega, fun _ => ⟨⟨by omega, by omega⟩, fun _ => h130 t j hP (fun h => (hb h).1), fun z => ?_⟩⟩
    obtain ⟨b1, b2⟩ := hb z
    obtain ⟨c1, c2, c3⟩ := p5 z
    have hlt : j.toNat < xs.length := by omega
    have hj' : xs[j.toNat]? = some xs[j.toNat] := List.getElem?_eq_getElem hlt
    obtain ⟨e1, e2⟩ := hh _ (List.mem_of_getElem? hj')
    have e3 := (c3 j.toNat (by omega)).1 _ hj'
    have e39 : ∀ i, t.2 39 i = s.2 39 i := fun i => p1 39 i (by decide)
    have e40 : ∀ i, t.2 40 i = s.2 40 i := fun i => p1 40 i (by decide)
    refine n_iv (vs := [xR 25, xI f, xI j]) (r := [xR 39, xR 25]) nn122 (by simp) rfl nc122 (ng122 (s := t) (d := d + 1) (by omega) hf ⟨h0, by omega⟩ (by rw [e39]; exact n_isch_cg (fun i => p1 41 i (by decide)) xs _ hx) hj') (fun r s' hr => ?_)
    rw [hr.1, hr.2, e40]
    have h121 : ∀ v : Bool, NP Z (d + 2) 126 121 [some (xR 25), some (xI f), some (xI n), some (xI k), some (xI y), some (xI j)] [xI (n_T v), xR 25] t Post := fun v => by
      refine n_at nb126_121 (by omega) rfl ⟨n_T01 v, ?_⟩
      exact ih _ (j + 1) (by omega) (by omega) (n_PI_b hP (n_T01 v) (fun _ => z)) (fun _ => ⟨b1, b2⟩)
    refine ⟨e1, ⟨hy.1, hy.2⟩, ?_, ?_, fun _ => n_at nb126_120 (by omega) rfl (h121 false), fun _ => h121 true⟩
    · rw [e39]; exact e2 e3
    · rw [e39]; exact b2
end N30
