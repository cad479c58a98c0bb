/-! THE REFERENCE READS ATOMS -/
/-- the texts: how long, which characters -/
def n_TX (s : nS) (m : Int) : Prop := (0 ≤ s.1 1 ∧ s.1 1 ≤ 120) ∧ (-1 ≤ m ∧ m < 16) ∧ (0 ≤ m → 0 ≤ s.2 37 m.toNat ∧ s.2 37 m.toNat ≤ 120) ∧ (∀ i, 0 ≤ s.2 26 i ∧ s.2 26 i < 128) ∧ (∀ i, 0 ≤ s.2 36 i ∧ s.2 36 i < 128)
def n_lenT (s : nS) (m : Int) : Int := if m < 0 then s.1 1 else s.2 37 m.toNat
theorem n_at1_b {s : nS} {m k : Int} (h : n_TX s m) : 0 ≤ n_at1 s m k ∧ n_at1 s m k < 128 := by
  obtain ⟨-, -, -, h1, h2⟩ := h
  unfold n_at1
  split <;> split <;> first | exact h1 _ | exact h2 _ | decide
theorem n_at1_0 {s : nS} {m k : Int} (h : n_lenT s m ≤ k) : n_at1 s m k = 0 := by
  unfold n_lenT at h
  unfold n_at1
  split
  · rename_i hm
    rw [if_pos hm] at h
    rw [if_neg (by omega)]
  · rename_i hm
    rw [if_neg hm] at h
    rw [if_neg (by omega)]
theorem n_len_b {s : nS} {m : Int} (h : n_TX s m) : 0 ≤ n_lenT s m ∧ n_lenT s m ≤ 120 := by
  obtain ⟨h0, h1, h2, -, -⟩ := h
  unfold n_lenT
  split
  · exact h0
  · exact h2 (by omega)
/-- digits, letters: to their end, at most n -/
def n_nd (ch : Int → Int) : Nat → Int → Int
  | 0, p => p
  | n + 1, p => if c_dig (ch p) = true then n_nd ch n (p + 1) else p
def n_nl (ch : Int → Int) : Nat → Int → Int
  | 0, p => p
  | n + 1, p => if c_let (ch p) = true then n_nl ch n (p + 1) else p
theorem n_nd_b {ch : Int → Int} {len : Int} (h0 : ∀ k, len ≤ k → ch k = 0) : ∀ (n : Nat) (p : Int), p ≤ len → p ≤ n_nd ch n p ∧ n_nd ch n p ≤ len
  | 0, p, hp => ⟨Int.le_refl _, hp⟩
  | n + 1, p, hp => by
    unfold n_nd
    split
    · rename_i h
      have : p < len := by
        apply Classical.byContradiction
        intro hc
        rw [h0 p (by omega)] at h
        exact absurd h (by decide)
      have := n_nd_b h0 n (p + 1) (by omega)
      exact ⟨by omega, this.2⟩
    · exact ⟨Int.le_refl _, hp⟩
theorem n_nl_b {ch : Int → Int} {len : Int} (h0 : ∀ k, len ≤ k → ch k = 0) : ∀ (n : Nat) (p : Int), p ≤ len → p ≤ n_nl ch n p ∧ n_nl ch n p ≤ len
  | 0, p, hp => ⟨Int.le_refl _, hp⟩
  | n + 1, p, hp => by
    unfold n_nl
    split
    · rename_i h
      have : p < len := by
        apply Classical.byContradiction
        intro hc
        rw [h0 p (by omega)] at h
        exact absurd h (by decide)
      have := n_nl_b h0 n (p + 1) (by omega)
      exact ⟨by omega, this.2⟩
    · exact ⟨Int.le_refl _, hp⟩
section N7
variable {Z : Nat → List Int32} {d : Nat} {s : nS}
/-- the character at the place p -/
theorem ng112p {m : Int} {S : Nat → Int} (hd : 6 ≤ d) (h : n_TX s m) (hS : S 1 = s.1 1) {k : Int} (hk : 0 ≤ k ∧ k ≤ 200) : NG Z d 112 [xR 25, xI m, xI k] (S, s.2) (fun r s' => r = some (n_at1 s m k) ∧ s' = (S, s.2)) := by
  obtain ⟨h0, h1, h2, h3, h4⟩ := h
  have := ng112 (Z := Z) (d := d) (s := (S, s.2)) (m := m) (k := k) hd ⟨by omega, by omega⟩ ⟨by omega, by omega⟩ (by show 0 ≤ S 1 ∧ S 1 ≤ 120; rw [hS]; exact h0) (fun hm => ⟨by omega, h2 hm⟩)
  have e : n_at1 (S, s.2) m k = n_at1 s m k := by
    unfold n_at1
    show (if m < 0 then (if k < S 1 then _ else _) else _) = _
    rw [hS]
  rw [e] at this
  exact this
/-- number: its digits; a number's value is nobody's concern here -/
theorem n_l118 {m sg : Int} (hd : 6 ≤ d) (h : n_TX s m) (hf : 0 ≤ s.1 17 ∧ s.1 17 < 1300) (Post : nA → nS → Prop) : ∀ (j : Nat), j ≤ 4 → ∀ (S : Nat → Int) (n : Int), S = n_upd s.1 23 (S 23) → 0 ≤ S 23 → S 23 ≤ 130 → (∀ v, Post (some (s.1 17)) (n_upd (n_upd s.1 23 (n_nd (n_at1 s m) j (S 23))) 17 (s.1 17 + 1), n_updA (n_updA s.2 38 (s.1 17).toNat 0) 39 (s.1 17).toNat v)) → NP Z (d + 1) 118 33 [some (xR 25), some (xI m), some (xI sg), some (xI n), some (xI ((4 : Int) - j))] [] (S, s.2) Post
  | 0, _, S, n, hS, h1, h2, hP => by
    refine n_at nb118_33 (by omega) rfl ⟨⟨by decide, by decide⟩, ⟨by decide, by decide⟩, fun _ => ?_, fun z => absurd (show (4 : Int) ≤ (4 : Int) - (0 : Nat) by decide) z⟩
    refine n_at nb118_88 (by omega) rfl ?_
    have e17 : S 17 = s.1 17 := by rw [hS]; rfl
    refine n_iv (vs := [xR 25, xI 0, xI (sg * n)]) (r := []) nn116 (by simp) rfl nc116 (ng116 (s := (S, s.2)) (w := 0) (v := sg * n) (by omega) (by show 0 ≤ S 17 ∧ S 17 < 1300; rw [e17]; exact hf)) (fun r s' hr => ?_)
    obtain ⟨rfl, rfl⟩ := hr
    have := hP (sg * n)
    show Post (some (S 17)) (n_upd S 17 (S 17 + 1), n_updA (n_updA s.2 38 (S 17).toNat 0) 39 (S 17).toNat (sg * n))
    rw [e17]
    have e : n_nd (n_at1 s m) 0 (S 23) = S 23 := rfl
    rw [e, ← hS] at this
    exact this
  | j + 1, hj, S, n, hS, h1, h2, hP => by
    have e1 : S 1 = s.1 1 := by rw [hS]; rfl
    refine n_at nb118_33 (by omega) rfl ⟨⟨by omega, by omega⟩, ⟨by decide, by decide⟩, fun z => ?_, fun _ => ?_⟩
    · have z : (4 : Int) ≤ 4 - ((j + 1 : Nat) : Int) := z
      omega
    refine n_iv (vs := [xR 25, xI m, xI (S 23)]) (r := []) nn112 (by simp) rfl nc112 (ng112p (by omega) h e1 ⟨h1, by omega⟩) (fun r s' hr => ?_)
    obtain ⟨rfl, rfl⟩ := hr
    have hb := n_at1_b (k := S 23) h
    refine n_is (vs := [xI (n_at1 s m (S 23))]) (r := []) nn113 (by simp) (ng113 (by omega) ⟨by omega, by omega⟩) (fun r s' hr => ?_)
    obtain ⟨rfl, rfl⟩ := hr
    refine ⟨n_rngT _, fun z => ?_, fun z => ?_⟩
    · have z : n_T (c_dig (n_at1 s m (S 23))) = 0 := z
      have hc : c_dig (n_at1 s m (S 23)) = false := by
        cases hq : c_dig (n_at1 s m (S 23))
        · rfl
        · rw [hq] at z; exact absurd z (by decide)
      refine n_at nb118_88 (by omega) rfl ?_
      have e17 : S 17 = s.1 17 := by rw [hS]; rfl
      refine n_iv (vs := [xR 25, xI 0, xI (sg * n)]) (r := []) nn116 (by simp) rfl nc116 (ng116 (s := (S, s.2)) (w := 0) (v := sg * n) (by omega) (by show 0 ≤ S 17 ∧ S 17 < 1300; rw [e17]; exact hf)) (fun r s' hr => ?_)
      obtain ⟨rfl, rfl⟩ := hr
      have := hP (sg * n)
      show Post (some (S 17)) (n_upd S 17 (S 17 + 1), n_updA (n_updA s.2 38 (S 17).toNat 0) 39 (S 17).toNat (sg * n))
      rw [e17]
      have e : n_nd (n_at1 s m) (j + 1) (S 23) = S 23 := by unfold n_nd; rw [hc]; rfl
      rw [e, ← hS] at this
      exact this
    · have z : ¬ n_T (c_dig (n_at1 s m (S 23))) = 0 := z
      have hc : c_dig (n_at1 s m (S 23)) = true := by
        cases hq : c_dig (n_at1 s m (S 23))
        · rw [hq] at z; exact absurd rfl z
        · rfl
      refine n_iv (vs := [xR 25, xI m, xI (S 23)]) (r := [xI (10 * n)]) nn112 (by simp) rfl nc112 (ng112p (by omega) h e1 ⟨h1, by omega⟩) (fun r s' hr => ?_)
      obtain ⟨rfl, rfl⟩ := hr
      have e : (4 : Int) - ((j + 1 : Nat) : Int) + 1 = 4 - (j : Nat) := by omega
      show NP Z (d + 1) 118 33 [some (xR 25), some (xI m), some (xI sg), some (xI (10 * n + n_at1 s m (S 23) - 48)), some (xI ((4 : Int) - ((j + 1 : Nat) : Int) + 1))] [] (n_upd S 23 (S 23 + 1), s.2) Post
      rw [e]
      have e23 : n_upd S 23 (S 23 + 1) 23 = S 23 + 1 := rfl
      refine n_l118 hd h hf Post j (by omega) _ _ ?_ (by rw [e23]; omega) ?_ ?_
      · rw [e23, hS]
        funext k
        unfold n_upd
        by_cases hk : k = 23
        · simp [hk]
        · simp [hk]
      · rw [e23]
        have : S 23 < n_lenT s m := by
          apply Classical.byContradiction
          intro hcn
          rw [n_at1_0 (by omega)] at hc
          exact absurd hc (by decide)
        have := n_len_b h
        omega
      · rw [e23]
        have e2 : n_nd (n_at1 s m) (j + 1) (S 23) = n_nd (n_at1 s m) j (S 23 + 1) := by
          show (if c_dig (n_at1 s m (S 23)) = true then _ else _) = _
          rw [if_pos hc]
        rw [← e2]
        exact hP
/-- number -/
theorem ng118 {m : Int} (hd : 6 ≤ d) (h : n_TX s m) (hf : 0 ≤ s.1 17 ∧ s.1 17 < 1300) (hp : 0 ≤ s.1 23 ∧ s.1 23 ≤ 120) : NG Z (d + 1) 118 [xR 25, xI m] s (fun r s' => r = some (s.1 17) ∧ ∃ v, s' = (n_upd (n_upd s.1 23 (n_nd (n_at1 s m) 4 (if n_at1 s m (s.1 23) = 45 then s.1 23 + 1 else s.1 23))) 17 (s.1 17 + 1), n_updA (n_updA s.2 38 (s.1 17).toNat 0) 39 (s.1 17).toNat v)) := by
  have hb := n_at1_b (k := s.1 23) h
  have h28 : ∀ (S : Nat → Int) (sg : Int), S = n_upd s.1 23 (S 23) → S 23 = (if n_at1 s m (s.1 23) = 45 then s.1 23 + 1 else s.1 23) → NP Z (d + 1) 118 28 [some (xR 25), some (xI m), some (xI sg), none, none] [] (S, s.2) (fun r s' => r = some (s.1 17) ∧ ∃ v, s' = (n_upd (n_upd s.1 23 (n_nd (n_at1 s m) 4 (if n_at1 s m (s.1 23) = 45 then s.1 23 + 1 else s.1 23))) 17 (s.1 17 + 1), n_updA (n_updA s.2 38 (s.1 17).toNat 0) 39 (s.1 17).toNat v)) := by
    intro S sg hS h23
    refine n_at nb118_28 (by omega) rfl ?_
    refine n_l118 hd h hf _ 4 (by omega) S 0 hS ?_ ?_ (fun v => ⟨rfl, v, by rw [h23]⟩)
    · rw [h23]; split <;> omega
    · rw [h23]; split <;> omega
  refine n_G_of (L := [some (xR 25), some (xI m), none, none, none]) (by rw [nl118]; exact Nat.le_of_ble_eq_true rfl) (by rw [nl118]; rfl) ?_
  refine n_at nb118_0 (by omega) rfl ?_
  refine n_iv (vs := [xR 25, xI m, xI (s.1 23)]) (r := []) nn112 (by simp) rfl nc112 (ng112p (S := s.1) (by omega) h rfl ⟨hp.1, by omega⟩) (fun r s' hr => ?_)
  obtain ⟨rfl, rfl⟩ := hr
  refine ⟨⟨by omega, by omega⟩, ⟨by decide, by decide⟩, fun z => ?_, fun z => ?_⟩
  · have e : n_upd s.1 23 (s.1 23) = s.1 := by
      funext k
      unfold n_upd
      split
      · rename_i hk; rw [hk]
      · rfl
    exact h28 s.1 1 e.symm (by rw [if_neg z])
  · exact h28 (n_upd s.1 23 (s.1 23 + 1)) (-1) (by funext k; unfold n_upd; by_cases hk : k = 23 <;> simp [hk]) (by rw [if_pos z]; rfl)
end N7
