section N53
variable {Z : Nat → List Int32} {d : Nat} {s t : nS} {H O : Nat → Int} {f u w nm n fr v : Int} {a b c e : Option nV} {q4 q5 : Bool} {xs : List Int}
/-- a form's chain -/
theorem n_chOf (hF : n_FI t H O) (hf : 0 ≤ f ∧ f < t.1 17) : ∃ xs : List Int, n_isch t.2 (n_fst t f) xs ∧ xs.length ≤ 1300 ∧ (∀ x ∈ xs, (0 ≤ t.2 40 x.toNat ∧ t.2 40 x.toNat < 1300) ∧ n_rng (t.2 38 (t.2 40 x.toNat).toNat) ∧ (t.2 38 (t.2 40 x.toNat).toNat = 1 → n_rng (t.2 39 (t.2 40 x.toNat).toNat))) ∧ (xs ≠ [] → t.2 38 f.toNat = 2 ∧ n_ch t O (t.2 39 f.toNat) f xs) := by
  by_cases hk : t.2 38 f.toNat = 2
  · have e : n_fst t f = t.2 39 f.toNat := by unfold n_fst; rw [if_pos hk]
    obtain ⟨y1, y2, y3, y4⟩ := hF.2.2.1 f.toNat (by omega)
    have y4 := y4 hk
    have h18 := hF.2.1
    obtain ⟨xs, c1, c2, c3⟩ := n_chain hF 1300 (t.2 39 f.toNat) (by rcases y4 with h | h; exact Or.inl h; exact Or.inr ⟨h.1, h.2.1⟩) (by rcases y4 with h | h; exact Or.inr h; exact Or.inl (by omega))
    have hcO : xs ≠ [] → O (t.2 39 f.toNat).toNat = f := by
      intro hne
      rcases y4 with h | h
      · obtain _ | ⟨x, xs⟩ := xs
        · exact absurd rfl hne
        · have := c1.1
          have := c1.2.1
          omega
      · rw [h.2.2]
        omega
    have hc : n_ch t O (t.2 39 f.toNat) f xs := ⟨c1, fun x hx => by
      obtain ⟨e1, e2, e3⟩ := c3 x hx
      exact ⟨⟨e1, e2⟩, by rw [e3]; exact hcO (List.ne_nil_of_mem hx)⟩⟩
    refine ⟨xs, by rw [e]; exact c1, c2, fun x hx => ?_, fun _ => ⟨hk, hc⟩⟩
    obtain ⟨e1, e2⟩ := n_cell1 hF (hc.2 x hx) hf.1
    obtain ⟨f1, f2, f3, -⟩ := n_form1 hF e1
    exact ⟨f1, f2, f3⟩
  · refine ⟨[], ?_, by simp, fun x hx => (by cases hx), fun h => absurd rfl h⟩
    unfold n_fst
    rw [if_neg hk]
    rfl
/-- what stands where a body may be made -/
def n_C1 (s t : nS) (H O : Nat → Int) (f : Int) : Prop := (n_ce s t ∧ t.1 1 = s.1 1 ∧ t.1 3 = n_read s (-1) ∧ n_read s (-1) = -1) ∧ n_FI t H O ∧ (t.1 17 ≤ 95 ∧ t.1 18 ≤ 95) ∧ (0 ≤ f ∧ f < t.1 17) ∧ H f.toNat ≤ 8
def n_C2 (t : nS) (O : Nat → Int) (f : Int) (q4 q5 : Bool) (n : Int) : Prop := ((q4 = true ∨ q5 = true) → ∃ a x y g : Int, n_ch t O (t.2 39 f.toNat) f [a, x, y, g] ∧ t.2 38 (t.2 40 x.toNat).toNat = 1) ∧ (0 ≤ n ∧ n ≤ 4) ∧ t.1 32 = n ∧ (∀ k : Nat, (k : Int) < n → n_rng (t.2 48 k) ∧ t.2 49 k = k) ∧ (q4 = false → q5 = false → n = 0)
theorem n_KC_of {t2 : nS} {H' O' : Nat → Int} (h1 : n_C1 s t H O f) (h2 : n_C2 t O f q4 q5 n) (hce : n_ce s t2 ∧ t2.1 1 = s.1 1 ∧ t2.1 3 = n_read s (-1)) (hF : n_FI t2 H' O') (ho : n_old t H O t2 H' O') (hq4 : q4 = true → ∀ k : Nat, (k : Int) < n → n_rng (t2.2 48 k)) (hq : q4 = false → n_BR n (if q5 = true then 13 else 14) t2) : n_KC s t2 f q4 q5 n := by
  obtain ⟨g1, g2, g3, g4, g5⟩ := h1
  obtain ⟨k1, k2, k3, k4, k5⟩ := h2
  obtain ⟨ff, -, -, -⟩ := n_form1 g2 g4
  refine ⟨⟨hce.1, hce.2.1, hce.2.2, g1.2.2.2⟩, k2, ff, fun h => ?_, hq4, fun h => ⟨hq h, k5 h⟩⟩
  obtain ⟨a, x, y, g, c1, c2⟩ := k1 h
  have e39 := (ho.2.2.1 f.toNat (by omega)).2.1
  have c3 := n_ch_old c1 ho
  have hx := c1.2 x (by simp)
  obtain ⟨x1, x2⟩ := n_cell1 g2 hx g4.1
  have e40 := (ho.2.2.2 x.toNat (by omega)).1
  obtain ⟨e38, e39x, -⟩ := ho.2.2.1 (t.2 40 x.toNat).toNat (by omega)
  have h17 := ho.1
  obtain ⟨w1, w2, w3, -⟩ := n_form1 (f := t.2 40 x.toNat) hF ⟨x1.1, by omega⟩
  refine ⟨[a, x, y, g], x, by rw [e39]; exact c3.1, rfl, by rw [e40]; exact w1, ?_⟩
  rw [e40]
  exact w3 (by rw [e38]; exact c2)
/-- a body, if there is one -/
theorem n_c191 (hd : 6 ≤ d) (hM : n_MI s) (h1 : n_C1 s t H O f) (hqq : ¬ (q4 = true ∧ q5 = true)) (h28 : t.1 28 = 0 ∨ t.1 28 = 1) (h2 : t.1 28 = 0 → n_C2 t O f q4 q5 n) : NP Z (d + 7) 110 191 (n_Lk f u a (some (xI (n_T q4))) (some (xI (n_T q5))) (some (xI n))) [] t (n_CO s) := by
  obtain ⟨⟨hc, h1a, h3, hrd⟩, g2, g3, g4, g5⟩ := h1
  have h1 : n_C1 s t H O f := ⟨⟨hc, h1a, h3, hrd⟩, g2, g3, g4, g5⟩
  refine n_at nb110_191 (by omega) rfl ⟨⟨by omega, by omega⟩, fun z => ?_, fun z => ?_⟩
  · exact n_c236 (d := d + 6) (by omega) hM hc h3 h28 (fun h => absurd h z)
  have z : t.1 28 = 0 := z
  have h2 := h2 z
  refine ⟨n_rngT _, fun z2 => ?_, fun z2 => ?_⟩
  · have hq := n_T1 z2
    refine n_c236 (d := d + 6) (by omega) hM hc h3 h28 (fun _ => n_KC_of h1 h2 ⟨hc, h1a, h3⟩ g2 n_old_rf (fun _ k hk => (h2.2.2.2.1 k hk).1) (fun h => ?_))
    rw [hq] at h
    cases h
  have hq4 := n_T0 z2
  have h231 : ∀ (f' e : Int), (e = 13 ∨ e = 14) → e = (if q5 = true then 13 else 14) → (0 ≤ f' ∧ f' < t.1 17) → H f'.toNat ≤ 8 → NP Z (d + 7) 110 231 (n_Lk f u a (some (xI (n_T q4))) (some (xI (n_T q5))) (some (xI n))) [xI e, xI f', xR 25] t (n_CO s) := by
    intro f' e he he2 hf' hH'
    refine n_at nb110_231 (by omega) rfl ?_
    refine n_iv (d := d + 6) (vs := [xR 25, xI f', xI e, xI n]) (r := []) nn128 (by simp) rfl nc128 (ng128 hd (n_MI_MU hM hc h1a) he h2.2.1 hf' g2 hH' g3 z h2.2.2.1 h2.2.2.2.1) (fun r s' hr => ?_)
    obtain ⟨r1, r2, r3, r4⟩ := hr
    rw [r1]
    have hce := n_ce_tr hc (n_ce_bf r2)
    have e1 : s'.1 1 = s.1 1 := by rw [r2.1 1 (by decide)]; exact h1a
    have e3 : s'.1 3 = n_read s (-1) := by rw [r2.1 3 (by decide)]; exact h3
    refine n_c236 (d := d + 6) (by omega) hM hce e3 r3 (fun h0 => ?_)
    obtain ⟨p1, p2, H', O', p3, p4⟩ := r4 h0
    refine n_KC_of h1 h2 ⟨hce, e1, e3⟩ p3 p4 (fun h => ?_) (fun _ => by rw [← he2]; exact p1)
    rw [hq4] at h
    cases h
  refine ⟨n_rngT _, fun z3 => ?_, fun z3 => ?_⟩
  · have hq5 := n_T0 z3
    refine n_at nb110_218 (by omega) rfl ?_
    refine n_at nb110_219 (by omega) rfl ⟨n_rngT _, fun _ => ?_, fun z4 => absurd z3 z4⟩
    exact n_at nb110_229 (by omega) rfl (h231 f 14 (Or.inr rfl) (by rw [hq5]; rfl) g4 g5)
  · have hq5 := n_T1 z3
    obtain ⟨a', x, y, g, c1, c2⟩ := h2.1 (Or.inr hq5)
    obtain ⟨ff, -, -, -⟩ := n_form1 g2 g4
    obtain ⟨x1, x2⟩ := n_cell1 g2 (c1.2 g (by simp)) g4.1
    refine n_iv (d := d + 6) (vs := [xR 25, xI f, xI 3]) (r := [xR 25]) nn122 (by simp) rfl nc122 (ng122 (by omega) ff ⟨by decide, by decide⟩ c1.1 (y := g) rfl) (fun r s' hr => ?_)
    rw [hr.1, hr.2]
    refine n_at nb110_219 (by omega) rfl ⟨n_rngT _, fun z4 => absurd z4 z3, fun _ => ?_⟩
    exact h231 (t.2 40 g.toNat) 13 (Or.inl rfl) (by rw [hq5]; rfl) x1 (by omega)
/-- a def or a mac: its name, its parameters -/
theorem n_c120 (hd : 6 ≤ d) (hM : n_MI s) (h1 : n_C1 s t H O f) (hqq : ¬ (q4 = true ∧ q5 = true)) (hq : q4 = true ∨ q5 = true) (h28 : t.1 28 = 0) (h32 : t.1 32 = 0) {e6 : Option nV} : NP Z (d + 7) 110 120 (n_Lk f u a (some (xI (n_T q4))) (some (xI (n_T q5))) e6) [] t (n_CO s) := by
  obtain ⟨⟨hc, h1a, h3, hrd⟩, g2, g3, g4, g5⟩ := h1
  have h1 : n_C1 s t H O f := ⟨⟨hc, h1a, h3, hrd⟩, g2, g3, g4, g5⟩
  obtain ⟨xs, x1, x2, x3, x4⟩ := n_chOf g2 g4
  obtain ⟨ff, fk, fv, -⟩ := n_form1 g2 g4
  have hbad : NP Z (d + 7) 110 160 (n_Lk f u a (some (xI (n_T q4))) (some (xI (n_T q5))) e6) [xR 25] t (n_CO s) := by
    refine n_at nb110_160 (by omega) rfl ?_
    refine n_at nb110_165 (by omega) rfl ⟨Or.inr rfl, ⟨by show _ ≤ (1 : Int); decide, by show (1 : Int) < _; decide⟩, fun z => absurd z (by show ¬ (1 : Int) = 0; decide), fun _ => ?_⟩
    refine n_at nb110_189 (by omega) rfl ?_
    refine n_c191 hd hM (t := (n_upd t.1 28 1, t.2)) (H := H) (O := O) ⟨⟨n_ce_tr hc (n_ce_u (by decide)), h1a, h3, hrd⟩, g2, g3, g4, g5⟩ hqq (Or.inr rfl) (fun h => absurd h (by show ¬ (1 : Int) = 0; decide))
  refine n_at nb110_120 (by omega) rfl ?_
  refine n_iv (d := d + 6) (vs := [xR 25, xI f]) (r := [xR 25]) nn121 (by simp) rfl nc121 (ng121 (by omega) ff fk x1 (by omega)) (fun r s' hr => ?_)
  rw [hr.1, hr.2]
  refine ⟨⟨by omega, by omega⟩, ⟨by decide, by decide⟩, fun _ => hbad, fun z => ?_⟩
  obtain ⟨a', x, y, g, rfl⟩ := n_len4 z
  obtain ⟨hk, hch⟩ := x4 (by simp)
  obtain ⟨b1, b2, b3⟩ := x3 x (by simp)
  refine n_iv (d := d + 6) (vs := [xR 25, xI f, xI 1]) (r := [xR 25, xR 25]) nn122 (by simp) rfl nc122 (ng122 (by omega) ff ⟨by decide, by decide⟩ hch.1 (y := x) rfl) (fun r s' hr => ?_)
  rw [hr.1, hr.2]
  refine n_iv (d := d + 6) (vs := [xR 25, xI (t.2 40 x.toNat)]) (r := [xR 25]) nn124 (by simp) rfl nc124 (ng124 (d := d + 5) (by omega) b1 b2 b3) (fun r' s' hr => ?_)
  obtain ⟨⟨q, hq0, hq1⟩, hs⟩ := hr
  rw [hq0, hs]
  refine ⟨n_rngT _, fun _ => hbad, fun z2 => ?_⟩
  have hk1 := hq1 (n_T1 z2)
  refine n_iv (d := d + 6) (vs := [xR 25, xI f, xI 1]) (r := [xR 39, xR 25]) nn122 (by simp) rfl nc122 (ng122 (by omega) ff ⟨by decide, by decide⟩ hch.1 (y := x) rfl) (fun r s' hr => ?_)
  rw [hr.1, hr.2]
  refine ⟨b1, ?_⟩
  refine n_is (d := d + 6) (vs := [xI (t.2 39 (t.2 40 x.toNat).toNat)]) (r := [xR 25]) nn125 (by simp) (ng125 (d := d + 5) (by omega) (b3 hk1)) (fun r s' hr => ?_)
  obtain ⟨⟨q2, hq2⟩, hs⟩ := hr
  rw [hq2, hs]
  refine ⟨n_rngT _, fun _ => ?_, fun _ => hbad⟩
  refine n_at nb110_164 (by omega) rfl ?_
  refine n_at nb110_165 (by omega) rfl ⟨Or.inl rfl, ⟨by show _ ≤ (0 : Int); decide, by show (0 : Int) < _; decide⟩, fun _ => ?_, fun z => absurd (show (0 : Int) = 0 from rfl) z⟩
  obtain ⟨y1, y2⟩ := n_cell1 g2 (hch.2 y (by simp)) g4.1
  obtain ⟨ys, w1, w2, w3, w4⟩ := n_chOf g2 y1
  obtain ⟨yf, yk, yv, -⟩ := n_form1 g2 y1
  refine n_at nb110_179 (by omega) rfl ?_
  refine n_iv (d := d + 6) (vs := [xR 25, xI f, xI 2]) (r := [xR 25]) nn122 (by simp) rfl nc122 (ng122 (s := (n_upd t.1 28 0, t.2)) (by omega) ff ⟨by decide, by decide⟩ hch.1 (y := y) rfl) (fun r s' hr => ?_)
  rw [hr.1, hr.2]
  refine n_iv (d := d + 6) (vs := [xR 25, xI (t.2 40 y.toNat)]) (r := []) nn126 (by simp) rfl nc126 (ng126 (d := d + 4) (s := (n_upd t.1 28 0, t.2)) (xs := ys) (by omega) yf yk w1 (by omega) w3 (Or.inl rfl) h32) (fun r s' hr => ?_)
  obtain ⟨hr1, k', hk', ⟨p1, p2, p3, p4, p5⟩, hr3⟩ := hr
  rw [hr1]
  refine n_at nb110_189 (by omega) rfl ?_
  have e38 : ∀ a i, ¬ (a = 48 ∨ a = 49) → s'.2 a i = t.2 a i := fun a i ha => p1 a i (by omega)
  have ef : ∀ j, j ≠ 28 ∧ j ≠ 32 → s'.1 j = t.1 j := fun j hj => by rw [p2 j hj]; exact n_u_ne hj.1
  have hsm : n_sm t s' := ⟨⟨ef 17 (by decide), ef 18 (by decide), ef 33 (by decide)⟩, fun a i ha => e38 a i (by omega)⟩
  have hce : n_ce s s' := n_ce_tr hc ⟨fun k hk => ef k (by omega), fun a i ha => e38 a i (by omega)⟩
  refine n_c191 (H := H) (O := O) hd hM ⟨⟨hce, by rw [ef 1 (by decide)]; exact h1a, by rw [ef 3 (by decide)]; exact h3, hrd⟩, n_sm_FI hsm g2, by rw [ef 17 (by decide), ef 18 (by decide)]; exact g3, by rw [ef 17 (by decide)]; exact g4, g5⟩ hqq p3 (fun h0 => ?_)
  obtain ⟨i1, i2, i3⟩ := p5 h0
  have hkk := hr3 h0
  refine ⟨fun _ => ⟨a', x, y, g, ?_, ?_⟩, ⟨by omega, by omega⟩, by rw [p4]; exact hkk, fun k hk => ?_, fun h4 h5 => ?_⟩
  · have := n_ch_old hch (n_sm_old (H := H) (O := O) hsm)
    rw [e38 39 _ (by decide)]
    exact this
  · rw [e38 38 _ (by decide), e38 40 _ (by decide)]
    exact hk1
  · obtain ⟨-, j2, j3⟩ := i3 k (by omega)
    exact ⟨j3, j2⟩
  · rcases hq with hq | hq
    · rw [hq] at h4; cases h4
    · rw [hq] at h5; cases h5
end N53
