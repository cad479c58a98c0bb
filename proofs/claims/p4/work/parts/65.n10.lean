/-! THE REFERENCE'S FORMS AS TREES: H a form's height, O the list that a cell belongs to -/
theorem n_ua_eq {A : Nat → Nat → Int} {a i j : Nat} {x : Int} : n_updA A a i x a j = if j = i then x else A a j := by
  unfold n_updA
  by_cases h : j = i <;> simp [h]
theorem n_ua_ne {A : Nat → Nat → Int} {a b i j : Nat} {x : Int} (h : b ≠ a) : n_updA A a i x b j = A b j := by
  unfold n_updA
  simp [h]
theorem n_u_ne {S : Nat → Int} {k j : Nat} {x : Int} (h : j ≠ k) : n_upd S k x j = S j := by
  unfold n_upd
  simp [h]
theorem n_u_eq {S : Nat → Int} {k : Nat} {x : Int} : n_upd S k x k = x := by
  unfold n_upd
  simp
def n_FIf (s : nS) (H O : Nat → Int) (i : Nat) : Prop := (s.2 38 i = 0 ∨ s.2 38 i = 1 ∨ s.2 38 i = 2) ∧ 0 ≤ H i ∧ (s.2 38 i ≠ 0 → n_rng (s.2 39 i)) ∧ (s.2 38 i = 2 → s.2 39 i = -1 ∨ (0 ≤ s.2 39 i ∧ s.2 39 i < s.1 18 ∧ O (s.2 39 i).toNat = i))
def n_FIc (s : nS) (H O : Nat → Int) (j : Nat) : Prop := (0 ≤ s.2 40 j ∧ s.2 40 j < s.1 17) ∧ (0 ≤ O j ∧ O j < s.1 17) ∧ H (s.2 40 j).toNat < H (O j).toNat ∧ (s.2 41 j = -1 ∨ ((j : Int) < s.2 41 j ∧ s.2 41 j < s.1 18 ∧ O (s.2 41 j).toNat = O j))
def n_FI (s : nS) (H O : Nat → Int) : Prop := (0 ≤ s.1 17 ∧ s.1 17 ≤ 1300) ∧ (0 ≤ s.1 18 ∧ s.1 18 ≤ 1300) ∧ (∀ i : Nat, (i : Int) < s.1 17 → n_FIf s H O i) ∧ (∀ j : Nat, (j : Int) < s.1 18 → n_FIc s H O j)
/-- a new form -/
def n_mk (s : nS) (w v : Int) : nS := (n_upd s.1 17 (s.1 17 + 1), n_updA (n_updA s.2 38 (s.1 17).toNat w) 39 (s.1 17).toNat v)
theorem n_FI_mk {s : nS} {H O : Nat → Int} {w v hh : Int} (h : n_FI s H O) (hf : s.1 17 < 1300) (hw : w = 0 ∨ w = 1 ∨ w = 2) (hv : w ≠ 0 → n_rng v) (h2 : w = 2 → v = -1) (hh0 : 0 ≤ hh) : n_FI (n_mk s w v) (n_upd H (s.1 17).toNat hh) O := by
  obtain ⟨a1, a2, a3, a4⟩ := h
  have e17 : (n_mk s w v).1 17 = s.1 17 + 1 := rfl
  have e18 : (n_mk s w v).1 18 = s.1 18 := rfl
  have k38 : ∀ i, (n_mk s w v).2 38 i = if i = (s.1 17).toNat then w else s.2 38 i := fun i => by
    dsimp only [n_mk]
    rw [n_ua_ne (by decide), n_ua_eq]
  have k39 : ∀ i, (n_mk s w v).2 39 i = if i = (s.1 17).toNat then v else s.2 39 i := fun i => by
    dsimp only [n_mk]
    rw [n_ua_eq]
    split
    · rfl
    · rw [n_ua_ne (by decide)]
  have k40 : ∀ i, (n_mk s w v).2 40 i = s.2 40 i := fun i => by
    dsimp only [n_mk]
    rw [n_ua_ne (by decide), n_ua_ne (by decide)]
  have k41 : ∀ i, (n_mk s w v).2 41 i = s.2 41 i := fun i => by
    dsimp only [n_mk]
    rw [n_ua_ne (by decide), n_ua_ne (by decide)]
  refine ⟨⟨by omega, by omega⟩, ⟨by omega, by omega⟩, fun i hi => ?_, fun j hj => ?_⟩
  · unfold n_FIf
    rw [k38, k39, e18]
    by_cases hif : i = (s.1 17).toNat
    · subst hif
      rw [n_u_eq]
      simp only [if_true]
      exact ⟨hw, hh0, hv, fun h => Or.inl (h2 h)⟩
    · rw [n_u_ne hif]
      simp only [hif, if_false]
      exact a3 i (by omega)
  · unfold n_FIc
    rw [k40, k41, e17, e18]
    have b := a4 j (by omega)
    obtain ⟨b1, b2, b3, b4⟩ := b
    rw [n_u_ne (by omega), n_u_ne (by omega)]
    exact ⟨⟨by omega, by omega⟩, ⟨by omega, by omega⟩, b3, b4⟩
/-- a form joins a list -/
def n_jn (s : nS) (f : Int) : nS := (n_upd s.1 18 (s.1 18 + 1), n_updA (if s.2 43 (s.1 25).toNat < 0 then n_updA (n_updA (n_updA s.2 40 (s.1 18).toNat f) 41 (s.1 18).toNat (-1)) 39 (s.2 42 (s.1 25).toNat).toNat (s.1 18) else n_updA (n_updA (n_updA s.2 40 (s.1 18).toNat f) 41 (s.1 18).toNat (-1)) 41 (s.2 43 (s.1 25).toNat).toNat (s.1 18)) 43 (s.1 25).toNat (s.1 18))
theorem n_jn38 {s : nS} {f : Int} {i : Nat} : (n_jn s f).2 38 i = s.2 38 i := by
  dsimp only [n_jn]
  rw [n_ua_ne (by decide)]
  split <;> rw [n_ua_ne (by decide), n_ua_ne (by decide), n_ua_ne (by decide)]
theorem n_jn40 {s : nS} {f : Int} {i : Nat} : (n_jn s f).2 40 i = if i = (s.1 18).toNat then f else s.2 40 i := by
  dsimp only [n_jn]
  rw [n_ua_ne (by decide)]
  split <;> rw [n_ua_ne (by decide), n_ua_ne (by decide), n_ua_eq]
theorem n_jn39 {s : nS} {f : Int} {i : Nat} : (n_jn s f).2 39 i = if s.2 43 (s.1 25).toNat < 0 ∧ i = (s.2 42 (s.1 25).toNat).toNat then s.1 18 else s.2 39 i := by
  dsimp only [n_jn]
  rw [n_ua_ne (by decide)]
  by_cases h : s.2 43 (s.1 25).toNat < 0
  · rw [if_pos h, n_ua_eq, n_ua_ne (by decide), n_ua_ne (by decide)]
    simp [h]
  · rw [if_neg h, n_ua_ne (by decide), n_ua_ne (by decide), n_ua_ne (by decide)]
    simp [h]
theorem n_jn41 {s : nS} {f : Int} {i : Nat} : (n_jn s f).2 41 i = if ¬ s.2 43 (s.1 25).toNat < 0 ∧ i = (s.2 43 (s.1 25).toNat).toNat then s.1 18 else if i = (s.1 18).toNat then -1 else s.2 41 i := by
  dsimp only [n_jn]
  rw [n_ua_ne (by decide)]
  by_cases h : s.2 43 (s.1 25).toNat < 0
  · rw [if_pos h, n_ua_ne (by decide), n_ua_eq, n_ua_ne (by decide)]
    simp [h]
  · rw [if_neg h, n_ua_eq, n_ua_eq, n_ua_ne (by decide)]
    simp [h]
theorem n_jn42 {s : nS} {f : Int} {i : Nat} : (n_jn s f).2 42 i = s.2 42 i := by
  dsimp only [n_jn]
  rw [n_ua_ne (by decide)]
  split <;> rw [n_ua_ne (by decide), n_ua_ne (by decide), n_ua_ne (by decide)]
theorem n_jn43 {s : nS} {f : Int} {i : Nat} : (n_jn s f).2 43 i = if i = (s.1 25).toNat then s.1 18 else s.2 43 i := by
  dsimp only [n_jn]
  rw [n_ua_eq]
  congr 1
  split <;> rw [n_ua_ne (by decide), n_ua_ne (by decide), n_ua_ne (by decide)]
theorem n_jnA {s : nS} {f : Int} {a i : Nat} (h : a ≠ 39 ∧ a ≠ 40 ∧ a ≠ 41 ∧ a ≠ 43) : (n_jn s f).2 a i = s.2 a i := by
  dsimp only [n_jn]
  rw [n_ua_ne h.2.2.2]
  split
  · rw [n_ua_ne h.1, n_ua_ne h.2.2.1, n_ua_ne h.2.1]
  · rw [n_ua_ne h.2.2.1, n_ua_ne h.2.2.1, n_ua_ne h.2.1]
theorem n_FI_jn {s : nS} {H O : Nat → Int} {f : Int} (h : n_FI s H O) (hc : s.1 18 < 1300) (hf : 0 ≤ f ∧ f < s.1 17) (hl : 0 ≤ s.2 42 (s.1 25).toNat ∧ s.2 42 (s.1 25).toNat < s.1 17) (hH : H f.toNat < H (s.2 42 (s.1 25).toNat).toNat) (h43 : s.2 43 (s.1 25).toNat = -1 ∨ (0 ≤ s.2 43 (s.1 25).toNat ∧ s.2 43 (s.1 25).toNat < s.1 18 ∧ O (s.2 43 (s.1 25).toNat).toNat = s.2 42 (s.1 25).toNat)) : n_FI (n_jn s f) H (n_upd O (s.1 18).toNat (s.2 42 (s.1 25).toNat)) := by
  obtain ⟨a1, a2, a3, a4⟩ := h
  have e17 : (n_jn s f).1 17 = s.1 17 := rfl
  have e18 : (n_jn s f).1 18 = s.1 18 + 1 := rfl
  refine ⟨⟨by omega, by omega⟩, ⟨by omega, by omega⟩, fun i hi => ?_, fun j hj => ?_⟩
  · have b := a3 i (by omega)
    unfold n_FIf at b ⊢
    obtain ⟨b1, b2, b3, b4⟩ := b
    rw [n_jn38, n_jn39, e18]
    by_cases hq : s.2 43 (s.1 25).toNat < 0 ∧ i = (s.2 42 (s.1 25).toNat).toNat
    · rw [if_pos hq]
      refine ⟨b1, b2, fun _ => ⟨by omega, by omega⟩, fun _ => Or.inr ⟨by omega, by omega, ?_⟩⟩
      rw [n_u_eq]
      omega
    · rw [if_neg hq]
      refine ⟨b1, b2, b3, fun hk => ?_⟩
      rcases b4 hk with b5 | ⟨b5, b6, b7⟩
      · exact Or.inl b5
      · refine Or.inr ⟨b5, by omega, ?_⟩
        rw [n_u_ne (by omega)]
        exact b7
  · unfold n_FIc
    rw [n_jn40, n_jn41, e17, e18]
    by_cases hq : j = (s.1 18).toNat
    · subst hq
      rw [n_u_eq]
      simp only [if_true]
      rw [if_neg (by intro hx; rcases h43 with h5 | ⟨h5, h6, h7⟩ <;> omega)]
      exact ⟨hf, hl, hH, Or.inl rfl⟩
    · have b := a4 j (by omega)
      obtain ⟨b1, b2, b3, b4⟩ := b
      rw [if_neg hq, n_u_ne hq, if_neg hq]
      refine ⟨b1, b2, b3, ?_⟩
      by_cases hz : ¬ s.2 43 (s.1 25).toNat < 0 ∧ j = (s.2 43 (s.1 25).toNat).toNat
      · rw [if_pos hz]
        rcases h43 with h5 | ⟨h5, h6, h7⟩
        · omega
        · refine Or.inr ⟨by omega, by omega, ?_⟩
          rw [n_u_eq, hz.2, h7]
      · rw [if_neg hz]
        rcases b4 with b5 | ⟨b5, b6, b7⟩
        · exact Or.inl b5
        · refine Or.inr ⟨b5, by omega, ?_⟩
          rw [n_u_ne (by omega)]
          exact b7
/-- the cells of a list: a chain that ends -/
theorem n_chain {s : nS} {H O : Nat → Int} (h : n_FI s H O) : ∀ (n : Nat) (c : Int), c = -1 ∨ (0 ≤ c ∧ c < s.1 18) → s.1 18 - c ≤ n ∨ c = -1 → ∃ xs : List Int, n_isch s.2 c xs ∧ xs.length ≤ n ∧ ∀ x ∈ xs, 0 ≤ x ∧ x < s.1 18 ∧ O x.toNat = O c.toNat
  | n, c, Or.inl hc, _ => ⟨[], hc, by simp, fun x hx => by cases hx⟩
  | 0, c, Or.inr hc, hn => by omega
  | n + 1, c, Or.inr hc, hn => by
    obtain ⟨a1, a2, a3, a4⟩ := h
    obtain ⟨b1, b2, b3, b4⟩ := a4 c.toNat (by omega)
    have hh : n_FI s H O := ⟨a1, a2, a3, a4⟩
    obtain ⟨xs, c1, c2, c3⟩ := n_chain hh n (s.2 41 c.toNat) (by rcases b4 with b5 | ⟨b5, b6, b7⟩; exact Or.inl b5; exact Or.inr ⟨by omega, b6⟩) (by rcases b4 with b5 | ⟨b5, b6, b7⟩; exact Or.inr b5; exact Or.inl (by omega))
    refine ⟨c :: xs, ⟨rfl, hc.1, by omega, c1⟩, by simp; exact c2, fun x hx => ?_⟩
    rcases List.mem_cons.mp hx with rfl | hx
    · exact ⟨hc.1, hc.2, rfl⟩
    · obtain ⟨d1, d2, d3⟩ := c3 x hx
      refine ⟨d1, d2, ?_⟩
      rcases b4 with b5 | ⟨b5, b6, b7⟩
      · rw [b5] at c1
        obtain _ | ⟨y, ys⟩ := xs
        · cases hx
        · obtain ⟨e1, e2, -, -⟩ := c1
          omega
      · rw [d3, b7]
