/-! A LIST'S TASKS -/
section N36
variable {Z : Nat → List Int32} {d : Nat} {s : nS} {f : Int} {xs : List Int} {Post : nA → nS → Prop}
/-- what a list's tasks must give, by the list's cells -/
def n_LP (s : nS) (f : Int) (xs : List Int) (Post : nA → nS → Prop) : Prop :=
  (∀ a b c op, xs = [a, b, c] → 2 ≤ op ∧ op ≤ 6 → Post none (n_push (n_push (n_push s 2 op 0) 0 (s.2 40 c.toNat) 0) 0 (s.2 40 b.toNat) 0)) ∧
  (∀ a b c e, xs = [a, b, c, e] → Post none (n_push (n_push s 3 f 0) 0 (s.2 40 b.toNat) 0)) ∧
  (∀ a b c e, xs = [a, b, c, e] → s.2 38 (s.2 40 b.toNat).toNat = 1 → Post none (n_push (n_push s 6 f 0) 0 (s.2 40 c.toNat) 0)) ∧
  (∀ a b r, xs = a :: b :: r → Post none (n_push (n_push s 8 (s.2 41 b.toNat) 0) 0 (s.2 40 b.toNat) 0)) ∧
  (∀ a b c, xs = [a, b, c] → s.2 38 (s.2 40 b.toNat).toNat = 1 → Post none (n_push (n_push s 9 (s.2 40 b.toNat) 0) 0 (s.2 40 c.toNat) 0)) ∧
  (∀ a b c, xs = [a, b, c] → Post none (n_push (n_push s 10 f (s.1 30)) 0 (s.2 40 b.toNat) 0)) ∧
  (∀ a r v, xs = a :: r → n_rng v → Post none (n_push (n_push s 12 v r.length) 1 (s.2 41 a.toNat) 0)) ∧
  Post none (n_upd s.1 28 1, s.2)
theorem n_ischT {s t : nS} {f : Int} {xs : List Int} (h : n_isch s.2 (s.2 39 f.toNat) xs) (h1 : ∀ i, t.2 41 i = s.2 41 i) (h2 : t.2 39 f.toNat = s.2 39 f.toNat) : n_isch t.2 (t.2 39 f.toNat) xs := by
  rw [h2]
  exact n_isch_cg h1 _ _ h
theorem n_len3 {xs : List Int} (h : (xs.length : Int) = 3) : ∃ a b c, xs = [a, b, c] := by
  match xs, h with
  | [a, b, c], _ => exact ⟨a, b, c, rfl⟩
  | [], h => exact absurd h (by simp)
  | [_], h => exact absurd h (by simp)
  | [_, _], h => exact absurd h (by simp)
  | _ :: _ :: _ :: _ :: r, h => simp at h; omega
theorem n_len4 {xs : List Int} (h : (xs.length : Int) = 4) : ∃ a b c e, xs = [a, b, c, e] := by
  match xs, h with
  | [a, b, c, e], _ => exact ⟨a, b, c, e, rfl⟩
  | [], h => exact absurd h (by simp)
  | [_], h => exact absurd h (by simp)
  | [_, _], h => exact absurd h (by simp)
  | [_, _, _], h => exact absurd h (by simp)
  | _ :: _ :: _ :: _ :: _ :: r, h => simp at h; omega
/-- what a list is, for its tasks -/
def n_LX (s : nS) (f : Int) (xs : List Int) : Prop := (0 ≤ f ∧ f < 1300) ∧ s.2 38 f.toNat = 2 ∧ n_isch s.2 (s.2 39 f.toNat) xs ∧ xs.length ≤ 1300 ∧ (∀ x ∈ xs, (0 ≤ s.2 40 x.toNat ∧ s.2 40 x.toNat < 1300) ∧ n_rng (s.2 38 (s.2 40 x.toNat).toNat) ∧ (s.2 38 (s.2 40 x.toNat).toNat = 1 → n_rng (s.2 39 (s.2 40 x.toNat).toNat)))
def n_L6 (f n v m c : Int) : nL := [some (xR 25), some (xI f), some (xI n), some (xI v), some (xI m), some (xI c)]
theorem n_t392 (hd : 6 ≤ d) {t : nS} {L : nL} (h : Post none t) : NP Z d 131 392 L [] t Post := n_at nb131_392 hd rfl ⟨rfl, h⟩
theorem n_t387 (hd : 6 ≤ d) {n v m c : Int} (hP : n_LP s f xs Post) : NP Z d 131 387 (n_L6 f n v m c) [] s Post := n_at nb131_387 hd rfl ⟨Or.inr rfl, n_t392 hd hP.2.2.2.2.2.2.2⟩
theorem n_t348 (hd : 6 ≤ d) {v m c : Int} (hP : n_LP s f xs Post) (ht : 0 ≤ s.1 29 ∧ s.1 29 < 297) (hv : n_rng v) (hv0 : v = 0 ∨ xs ≠ []) (hx : n_LX s f xs) (hc : xs ≠ [] → c = s.2 41 (s.2 39 f.toNat).toNat) : NP Z (d + 2) 131 348 (n_L6 f xs.length v m c) [] s Post := by
  refine n_at nb131_348 (by omega) rfl ?_
  refine n_is (vs := [xI (v % 256)]) (r := []) nn114 (by simp) (ng114 (by omega) ⟨by omega, by omega⟩) (fun r s' hr => ?_)
  rw [hr.1, hr.2]
  refine ⟨n_rngT _, fun _ => n_t387 (by omega) hP, fun z => ?_⟩
  refine n_is (d := d + 1) (vs := [xI v]) (r := []) nn125 (by simp) (ng125 (by omega) hv) (fun r s' hr => ?_)
  obtain ⟨⟨q, hq⟩, hs⟩ := hr
  rw [hq, hs]
  refine ⟨n_rngT _, fun _ => n_t387 (by omega) hP, fun z2 => ?_⟩
  have hne : xs ≠ [] := by
    rcases hv0 with h0 | h0
    · have := n_T1 z
      rw [h0] at this
      exact absurd this (by decide)
    · exact h0
  obtain _ | ⟨a, r⟩ := xs
  · exact absurd rfl hne
  have hc := hc hne
  have ha := hx.2.2.1.1
  refine n_iv (vs := [xR 25, xI 12, xI v, xI (((a :: r).length : Nat) - 1)]) (r := []) nn129 (by simp) rfl nc129 (ng129 (s := s) (d := d + 1) (by omega) ⟨ht.1, by omega⟩) (fun r' s' hr => ?_)
  rw [hr.1, hr.2]
  refine n_iv (vs := [xR 25, xI 1, xI c, xI 0]) (r := []) nn129 (by simp) rfl nc129 (ng129 (s := n_push s 12 v (((a :: r).length : Nat) - 1)) (d := d + 1) (by omega) ⟨by show 0 ≤ s.1 29 + 1; omega, by show s.1 29 + 1 < 300; omega⟩) (fun r' s' hr => ?_)
  rw [hr.1, hr.2]
  refine n_t392 (by omega) ?_
  have := hP.2.2.2.2.2.2.1 a r v rfl hv
  have e : (((a :: r).length : Nat) : Int) - 1 = (r.length : Int) := by simp
  rw [hc, ha, e]
  exact this
theorem n_t304 (hd : 6 ≤ d) {v m c : Int} (hP : n_LP s f xs Post) (ht : 0 ≤ s.1 29 ∧ s.1 29 < 297) (hv : n_rng v) (hv0 : v = 0 ∨ xs ≠ []) (hx : n_LX s f xs) (hc : xs ≠ [] → c = s.2 41 (s.2 39 f.toNat).toNat) : NP Z (d + 2) 131 304 (n_L6 f xs.length v m c) [] s Post := by
  have h348 := n_t348 (Z := Z) (m := m) hd hP ht hv hv0 hx hc
  have hl := hx.2.2.2.1
  refine n_at nb131_304 (by omega) rfl ?_
  refine n_is (vs := [xI 114, xI 117, xI 110]) (r := [xI v]) nn123 (by simp) (ng123 (by omega)) (fun r s' hr => ?_)
  rw [hr.1, hr.2]
  refine ⟨hv, n_rng_word _ _ _, fun _ => h348, fun _ => ⟨⟨by omega, by omega⟩, ⟨by decide, by decide⟩, fun _ => h348, fun z => ?_⟩⟩
  obtain ⟨a, b, e, rfl⟩ := n_len3 z
  refine n_iv (vs := [xR 25, xI 10, xI f, xI (s.1 30)]) (r := []) nn129 (by simp) rfl nc129 (ng129 (s := s) (d := d + 1) (by omega) ⟨ht.1, by omega⟩) (fun r' s' hr => ?_)
  rw [hr.1, hr.2]
  refine n_iv (vs := [xR 25, xI f, xI 1]) (r := [xI 0, xR 25]) nn122 (by simp) rfl nc122 (ng122 (s := n_push s 10 f (s.1 30)) (d := d + 1) (y := b) (by omega) hx.1 ⟨by decide, by decide⟩ (n_ischT hx.2.2.1 (fun _ => rfl) rfl) rfl) (fun r' s' hr => ?_)
  rw [hr.1, hr.2]
  refine n_iv (vs := [xR 25, xI 0, xI (s.2 40 b.toNat), xI 0]) (r := []) nn129 (by simp) rfl nc129 (ng129 (s := n_push s 10 f (s.1 30)) (d := d + 1) (by omega) ⟨by show 0 ≤ s.1 29 + 1; omega, by show s.1 29 + 1 < 300; omega⟩) (fun r' s' hr => ?_)
  rw [hr.1, hr.2]
  exact n_t392 (by omega) (hP.2.2.2.2.2.1 a b e rfl)
theorem n_t245 (hd : 6 ≤ d) {v m c : Int} (hP : n_LP s f xs Post) (ht : 0 ≤ s.1 29 ∧ s.1 29 < 297) (hv : n_rng v) (hv0 : v = 0 ∨ xs ≠ []) (hx : n_LX s f xs) (hc : xs ≠ [] → c = s.2 41 (s.2 39 f.toNat).toNat) : NP Z (d + 2) 131 245 (n_L6 f xs.length v m c) [] s Post := by
  have h304 := n_t304 (Z := Z) (m := m) hd hP ht hv hv0 hx hc
  have hl := hx.2.2.2.1
  refine n_at nb131_245 (by omega) rfl ?_
  refine n_is (vs := [xI 115, xI 101, xI 116]) (r := [xI v]) nn123 (by simp) (ng123 (by omega)) (fun r s' hr => ?_)
  rw [hr.1, hr.2]
  refine ⟨hv, n_rng_word _ _ _, fun _ => h304, fun _ => ⟨⟨by omega, by omega⟩, ⟨by decide, by decide⟩, fun _ => h304, fun z => ?_⟩⟩
  obtain ⟨a, b, e, rfl⟩ := n_len3 z
  obtain ⟨b1, b2, b3⟩ := hx.2.2.2.2 b (by simp)
  refine n_iv (vs := [xR 25, xI f, xI 1]) (r := [xR 25]) nn122 (by simp) rfl nc122 (ng122 (s := s) (d := d + 1) (y := b) (by omega) hx.1 ⟨by decide, by decide⟩ hx.2.2.1 rfl) (fun r' s' hr => ?_)
  rw [hr.1, hr.2]
  refine n_iv (d := d + 1) (vs := [xR 25, xI (s.2 40 b.toNat)]) (r := []) nn124 (by simp) rfl nc124 (ng124 (by omega) b1 b2 b3) (fun r' s' hr => ?_)
  obtain ⟨⟨q, hq, hq1⟩, hs⟩ := hr
  rw [hq, hs]
  refine ⟨n_rngT _, fun _ => h304, fun z2 => ?_⟩
  refine n_iv (vs := [xR 25, xI f, xI 1]) (r := [xI 9, xR 25]) nn122 (by simp) rfl nc122 (ng122 (s := s) (d := d + 1) (y := b) (by omega) hx.1 ⟨by decide, by decide⟩ hx.2.2.1 rfl) (fun r' s' hr => ?_)
  rw [hr.1, hr.2]
  refine n_iv (vs := [xR 25, xI 9, xI (s.2 40 b.toNat), xI 0]) (r := []) nn129 (by simp) rfl nc129 (ng129 (s := s) (d := d + 1) (by omega) ⟨ht.1, by omega⟩) (fun r' s' hr => ?_)
  rw [hr.1, hr.2]
  refine n_iv (vs := [xR 25, xI f, xI 2]) (r := [xI 0, xR 25]) nn122 (by simp) rfl nc122 (ng122 (s := n_push s 9 (s.2 40 b.toNat) 0) (d := d + 1) (y := e) (by omega) hx.1 ⟨by decide, by decide⟩ (n_ischT hx.2.2.1 (fun _ => rfl) rfl) rfl) (fun r' s' hr => ?_)
  rw [hr.1, hr.2]
  refine n_iv (vs := [xR 25, xI 0, xI (s.2 40 e.toNat), xI 0]) (r := []) nn129 (by simp) rfl nc129 (ng129 (s := n_push s 9 (s.2 40 b.toNat) 0) (d := d + 1) (by omega) ⟨by show 0 ≤ s.1 29 + 1; omega, by show s.1 29 + 1 < 300; omega⟩) (fun r' s' hr => ?_)
  rw [hr.1, hr.2]
  exact n_t392 (by omega) (hP.2.2.2.2.1 a b e rfl (hq1 (n_T1 z2)))
theorem n_t198 (hd : 6 ≤ d) {v m c : Int} (hP : n_LP s f xs Post) (ht : 0 ≤ s.1 29 ∧ s.1 29 < 297) (hv : n_rng v) (hv0 : v = 0 ∨ xs ≠ []) (hx : n_LX s f xs) (hc : xs ≠ [] → c = s.2 41 (s.2 39 f.toNat).toNat) : NP Z (d + 2) 131 198 (n_L6 f xs.length v m c) [] s Post := by
  have h245 := n_t245 (Z := Z) (m := m) hd hP ht hv hv0 hx hc
  have hl := hx.2.2.2.1
  refine n_at nb131_198 (by omega) rfl ?_
  refine n_is (vs := [xI 0, xI 100, xI 111]) (r := [xI v]) nn123 (by simp) (ng123 (by omega)) (fun r s' hr => ?_)
  rw [hr.1, hr.2]
  refine ⟨hv, n_rng_word _ _ _, fun _ => h245, fun _ => ⟨⟨by omega, by omega⟩, ⟨by decide, by decide⟩, fun _ => h245, fun z => ?_⟩⟩
  obtain _ | ⟨a, _ | ⟨b, r⟩⟩ := xs
  · exact absurd (by decide : ((([] : List Int).length : Nat) : Int) ≤ 1) z
  · exact absurd (by simp : ((([a] : List Int).length : Nat) : Int) ≤ 1) z
  have hc := hc (by simp)
  obtain ⟨ha, -, -, hb, hb1, hb2, -⟩ := hx.2.2.1
  have hcb : c = b := by rw [hc, ha, hb]
  refine ⟨⟨by rw [hcb]; exact hb1, by rw [hcb]; exact hb2⟩, ?_⟩
  refine n_iv (vs := [xR 25, xI 8, xI (s.2 41 c.toNat), xI 0]) (r := []) nn129 (by simp) rfl nc129 (ng129 (s := s) (d := d + 1) (by omega) ⟨ht.1, by omega⟩) (fun r' s' hr => ?_)
  rw [hr.1, hr.2]
  refine ⟨⟨by rw [hcb]; exact hb1, by rw [hcb]; exact hb2⟩, ?_⟩
  refine n_iv (vs := [xR 25, xI 0, xI (s.2 40 c.toNat), xI 0]) (r := []) nn129 (by simp) rfl nc129 (ng129 (s := n_push s 8 (s.2 41 c.toNat) 0) (d := d + 1) (by omega) ⟨by show 0 ≤ s.1 29 + 1; omega, by show s.1 29 + 1 < 300; omega⟩) (fun r' s' hr => ?_)
  rw [hr.1, hr.2]
  rw [hcb]
  exact n_t392 (by omega) (hP.2.2.2.1 a b r rfl)
theorem n_t144 (hd : 6 ≤ d) {v m c : Int} (hP : n_LP s f xs Post) (ht : 0 ≤ s.1 29 ∧ s.1 29 < 297) (hv : n_rng v) (hv0 : v = 0 ∨ xs ≠ []) (hx : n_LX s f xs) (hc : xs ≠ [] → c = s.2 41 (s.2 39 f.toNat).toNat) : NP Z (d + 2) 131 144 (n_L6 f xs.length v m c) [] s Post := by
  have h198 := n_t198 (Z := Z) (m := m) hd hP ht hv hv0 hx hc
  have hl := hx.2.2.2.1
  refine n_at nb131_144 (by omega) rfl ?_
  refine n_is (vs := [xI 108, xI 101, xI 116]) (r := [xI v]) nn123 (by simp) (ng123 (by omega)) (fun r s' hr => ?_)
  rw [hr.1, hr.2]
  refine ⟨hv, n_rng_word _ _ _, fun _ => h198, fun _ => ⟨⟨by omega, by omega⟩, ⟨by decide, by decide⟩, fun _ => h198, fun z => ?_⟩⟩
  obtain ⟨a, b, e, g, rfl⟩ := n_len4 z
  obtain ⟨b1, b2, b3⟩ := hx.2.2.2.2 b (by simp)
  refine n_iv (vs := [xR 25, xI f, xI 1]) (r := [xR 25]) nn122 (by simp) rfl nc122 (ng122 (s := s) (d := d + 1) (y := b) (by omega) hx.1 ⟨by decide, by decide⟩ hx.2.2.1 rfl) (fun r' s' hr => ?_)
  rw [hr.1, hr.2]
  refine n_iv (d := d + 1) (vs := [xR 25, xI (s.2 40 b.toNat)]) (r := []) nn124 (by simp) rfl nc124 (ng124 (by omega) b1 b2 b3) (fun r' s' hr => ?_)
  obtain ⟨⟨q, hq, hq1⟩, hs⟩ := hr
  rw [hq, hs]
  refine ⟨n_rngT _, fun _ => h198, fun z2 => ?_⟩
  refine n_iv (vs := [xR 25, xI 6, xI f, xI 0]) (r := []) nn129 (by simp) rfl nc129 (ng129 (s := s) (d := d + 1) (by omega) ⟨ht.1, by omega⟩) (fun r' s' hr => ?_)
  rw [hr.1, hr.2]
  refine n_iv (vs := [xR 25, xI f, xI 2]) (r := [xI 0, xR 25]) nn122 (by simp) rfl nc122 (ng122 (s := n_push s 6 f 0) (d := d + 1) (y := e) (by omega) hx.1 ⟨by decide, by decide⟩ (n_ischT hx.2.2.1 (fun _ => rfl) rfl) rfl) (fun r' s' hr => ?_)
  rw [hr.1, hr.2]
  refine n_iv (vs := [xR 25, xI 0, xI (s.2 40 e.toNat), xI 0]) (r := []) nn129 (by simp) rfl nc129 (ng129 (s := n_push s 6 f 0) (d := d + 1) (by omega) ⟨by show 0 ≤ s.1 29 + 1; omega, by show s.1 29 + 1 < 300; omega⟩) (fun r' s' hr => ?_)
  rw [hr.1, hr.2]
  exact n_t392 (by omega) (hP.2.2.1 a b e g rfl (hq1 (n_T1 z2)))
theorem n_t105 (hd : 6 ≤ d) {v m c : Int} (hP : n_LP s f xs Post) (ht : 0 ≤ s.1 29 ∧ s.1 29 < 297) (hv : n_rng v) (hv0 : v = 0 ∨ xs ≠ []) (hx : n_LX s f xs) (hc : xs ≠ [] → c = s.2 41 (s.2 39 f.toNat).toNat) : NP Z (d + 2) 131 105 (n_L6 f xs.length v m c) [] s Post := by
  have h144 := n_t144 (Z := Z) (m := m) hd hP ht hv hv0 hx hc
  have hl := hx.2.2.2.1
  refine n_at nb131_105 (by omega) rfl ?_
  refine n_is (vs := [xI 0, xI 105, xI 102]) (r := [xI v]) nn123 (by simp) (ng123 (by omega)) (fun r s' hr => ?_)
  rw [hr.1, hr.2]
  refine ⟨hv, n_rng_word _ _ _, fun _ => h144, fun _ => ⟨⟨by omega, by omega⟩, ⟨by decide, by decide⟩, fun _ => h144, fun z => ?_⟩⟩
  obtain ⟨a, b, e, g, rfl⟩ := n_len4 z
  refine n_iv (vs := [xR 25, xI 3, xI f, xI 0]) (r := []) nn129 (by simp) rfl nc129 (ng129 (s := s) (d := d + 1) (by omega) ⟨ht.1, by omega⟩) (fun r' s' hr => ?_)
  rw [hr.1, hr.2]
  refine n_iv (vs := [xR 25, xI f, xI 1]) (r := [xI 0, xR 25]) nn122 (by simp) rfl nc122 (ng122 (s := n_push s 3 f 0) (d := d + 1) (y := b) (by omega) hx.1 ⟨by decide, by decide⟩ (n_ischT hx.2.2.1 (fun _ => rfl) rfl) rfl) (fun r' s' hr => ?_)
  rw [hr.1, hr.2]
  refine n_iv (vs := [xR 25, xI 0, xI (s.2 40 b.toNat), xI 0]) (r := []) nn129 (by simp) rfl nc129 (ng129 (s := n_push s 3 f 0) (d := d + 1) (by omega) ⟨by show 0 ≤ s.1 29 + 1; omega, by show s.1 29 + 1 < 300; omega⟩) (fun r' s' hr => ?_)
  rw [hr.1, hr.2]
  exact n_t392 (by omega) (hP.2.1 a b e g rfl)
theorem n_sign_b (v : Int) : n_sign v = 0 ∨ (2 ≤ n_sign v ∧ n_sign v ≤ 6) := by
  unfold n_sign
  split
  · right; decide
  · split
    · right; decide
    · split
      · right; decide
      · split
        · right; decide
        · split
          · right; decide
          · left; rfl
theorem n_t56 (hd : 6 ≤ d) {v m c : Int} (hP : n_LP s f xs Post) (ht : 0 ≤ s.1 29 ∧ s.1 29 < 297) (hv : n_rng v) (hv0 : v = 0 ∨ xs ≠ []) (hx : n_LX s f xs) (hc : xs ≠ [] → c = s.2 41 (s.2 39 f.toNat).toNat) : NP Z (d + 2) 131 56 (n_L6 f xs.length v m c) [] s Post := by
  have h105 := n_t105 (Z := Z) (m := m) hd hP ht hv hv0 hx hc
  have hl := hx.2.2.2.1
  have hsg := n_sign_b v
  refine n_at nb131_56 (by omega) rfl ?_
  refine n_is (vs := [xI v]) (r := []) nn134 (by simp) (ng134 (by omega) hv) (fun r s' hr => ?_)
  rw [hr.1, hr.2]
  refine ⟨⟨by omega, by omega⟩, fun _ => h105, fun z1 => ⟨⟨by omega, by omega⟩, ⟨by decide, by decide⟩, fun _ => h105, fun z => ?_⟩⟩
  have z1 : ¬ n_sign v ≤ 0 := z1
  obtain ⟨a, b, e, rfl⟩ := n_len3 z
  refine n_is (vs := [xI v]) (r := [xI 2, xR 25]) nn134 (by simp) (ng134 (by omega) hv) (fun r s' hr => ?_)
  rw [hr.1, hr.2]
  refine n_iv (vs := [xR 25, xI 2, xI (n_sign v), xI 0]) (r := []) nn129 (by simp) rfl nc129 (ng129 (s := s) (d := d + 1) (by omega) ⟨ht.1, by omega⟩) (fun r' s' hr => ?_)
  rw [hr.1, hr.2]
  refine n_iv (vs := [xR 25, xI f, xI 2]) (r := [xI 0, xR 25]) nn122 (by simp) rfl nc122 (ng122 (s := n_push s 2 (n_sign v) 0) (d := d + 1) (y := e) (by omega) hx.1 ⟨by decide, by decide⟩ (n_ischT hx.2.2.1 (fun _ => rfl) rfl) rfl) (fun r' s' hr => ?_)
  rw [hr.1, hr.2]
  refine n_iv (vs := [xR 25, xI 0, xI (s.2 40 e.toNat), xI 0]) (r := []) nn129 (by simp) rfl nc129 (ng129 (s := n_push s 2 (n_sign v) 0) (d := d + 1) (by omega) ⟨by show 0 ≤ s.1 29 + 1; omega, by show s.1 29 + 1 < 300; omega⟩) (fun r' s' hr => ?_)
  rw [hr.1, hr.2]
  refine n_iv (vs := [xR 25, xI f, xI 1]) (r := [xI 0, xR 25]) nn122 (by simp) rfl nc122 (ng122 (s := n_push (n_push s 2 (n_sign v) 0) 0 (s.2 40 e.toNat) 0) (d := d + 1) (y := b) (by omega) hx.1 ⟨by decide, by decide⟩ (n_ischT hx.2.2.1 (fun _ => rfl) rfl) rfl) (fun r' s' hr => ?_)
  rw [hr.1, hr.2]
  refine n_iv (vs := [xR 25, xI 0, xI (s.2 40 b.toNat), xI 0]) (r := []) nn129 (by simp) rfl nc129 (ng129 (s := n_push (n_push s 2 (n_sign v) 0) 0 (s.2 40 e.toNat) 0) (d := d + 1) (by omega) ⟨by show 0 ≤ s.1 29 + 1 + 1; omega, by show s.1 29 + 1 + 1 < 300; omega⟩) (fun r' s' hr => ?_)
  rw [hr.1, hr.2]
  exact n_t392 (by omega) (hP.1 a b e (n_sign v) rfl (by omega))
/-- a list -/
theorem ng131 (hd : 6 ≤ d) (hP : n_LP s f xs Post) (ht : 0 ≤ s.1 29 ∧ s.1 29 < 297) (hx : n_LX s f xs) (hs : ∀ i, n_rng (s.2 27 i) ∧ n_rng (s.2 28 i)) (hu : 0 ≤ s.1 2 ∧ s.1 2 ≤ 16) (hm : ∀ m : Int, 0 ≤ m → m < s.1 2 → s.2 27 m.toNat = 2 → xs ≠ [] → NG Z (d + 3) 133 [xR 25, xI f, xI m, xI xs.length] s (fun r s' => r = none ∧ Post none s')) : NG Z (d + 4) 131 [xR 25, xI f] s Post := by
  have hl := hx.2.2.2.1
  have hfst : n_fst s f = s.2 39 f.toNat := by unfold n_fst; rw [if_pos hx.2.1]
  have hx1 : n_isch s.2 (n_fst s f) xs := by rw [hfst]; exact hx.2.2.1
  have h38 : ∀ v m c : Int, n_rng v → (v = 0 ∨ xs ≠ []) → m = (if v = 0 then -1 else n_lat (fun i => decide (s.2 27 i = 2 ∧ s.2 28 i = v)) (s.1 2).toNat) → (xs ≠ [] → c = s.2 41 (s.2 39 f.toNat).toNat) → NP Z (d + 4) 131 38 [some (xR 25), some (xI f), some (xI xs.length), some (xI v), some (xI m), none] [xI c] s Post := by
    intro v m c hv hv0 hme hc
    have hmb : -1 ≤ m ∧ m < s.1 2 ∧ (0 ≤ m → s.2 27 m.toNat = 2 ∧ xs ≠ []) := by
      by_cases h0 : v = 0
      · rw [if_pos h0] at hme
        exact ⟨by omega, by omega, fun h => by omega⟩
      · rw [if_neg h0] at hme
        have h1 := n_lat_b (fun i => decide (s.2 27 i = 2 ∧ s.2 28 i = v)) (s.1 2).toNat
        have h2 := n_lat_p (fun i => decide (s.2 27 i = 2 ∧ s.2 28 i = v)) (s.1 2).toNat
        rw [← hme] at h1 h2
        refine ⟨by omega, by omega, fun h => ⟨(of_decide_eq_true (h2 h)).1, ?_⟩⟩
        rcases hv0 with h3 | h3
        · exact absurd h3 h0
        · exact h3
    refine n_at nb131_38 (by omega) rfl ⟨⟨by omega, by omega⟩, fun _ => n_t56 (d := d + 2) (by omega) hP ht hv hv0 hx hc, fun z => ?_⟩
    have z : ¬ m < 0 := z
    refine n_iv (d := d + 3) (vs := [xR 25, xI f, xI m, xI xs.length]) (r := []) nn133 (by simp) rfl nc133 (P := fun r s' => r = none ∧ Post none s') ?_ (fun r s' hr => ?_)
    · exact hm m (by omega) (by omega) (hmb.2.2 (by omega)).1 (hmb.2.2 (by omega)).2
    · rw [hr.1]
      exact n_t392 (by omega) hr.2
  have hk : n_rng (s.2 38 f.toNat) := by rw [hx.2.1]; exact ⟨by decide, by decide⟩
  refine n_G_of (L := [some (xR 25), some (xI f), none, none, none, none]) (by rw [nl131]; exact Nat.le_of_ble_eq_true rfl) (by rw [nl131]; rfl) ?_
  refine n_at nb131_0 (by omega) rfl ?_
  refine n_iv (d := d + 3) (vs := [xR 25, xI f]) (r := []) nn121 (by simp) rfl nc121 (ng121 (by omega) hx.1 hk hx1 (by omega)) (fun r s' hr => ?_)
  rw [hr.1, hr.2]
  refine n_iv (d := d + 3) (vs := [xR 25, xI f]) (r := []) nn120 (by simp) rfl nc120 (ng120 (d := d + 2) (by omega) hx.1 hk hx1 (by omega) hx.2.2.2.2) (fun r s' hr => ?_)
  obtain ⟨⟨v, hv, hvr, hv0⟩, hs'⟩ := hr
  rw [hv, hs']
  refine n_iv (d := d + 3) (vs := [xR 25, xI v]) (r := []) nn132 (by simp) rfl nc132 (ng132 (by omega) hvr hs hu) (fun r s' hr => ?_)
  rw [hr.1, hr.2]
  refine ⟨⟨by omega, by omega⟩, fun z => ?_, fun z => ?_⟩
  · refine n_at nb131_37 (by omega) rfl (h38 v _ _ hvr hv0 rfl (fun h => ?_))
    have z : (xs.length : Int) ≤ 0 := z
    exact absurd (List.length_eq_zero_iff.mp (by omega)) h
  · refine ⟨⟨hx.1.1, hx.1.2⟩, ?_⟩
    have z : ¬ (xs.length : Int) ≤ 0 := z
    obtain _ | ⟨a, r⟩ := xs
    · exact absurd (by decide : ((([] : List Int).length : Nat) : Int) ≤ 0) z
    have ha := hx.2.2.1
    refine ⟨⟨by rw [ha.1]; exact ha.2.1, by rw [ha.1]; exact ha.2.2.1⟩, h38 v _ _ hvr hv0 rfl (fun _ => rfl)⟩
end N36
