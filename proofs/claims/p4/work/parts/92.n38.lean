/-! CODE THAT IS MADE. c: its bytes; z: its length; D: how deep where a step begins (below 0: none begins there); Q: the jumps' places that are still open; M: the calls' places that are marked -/
def n_tg (c : Nat → Int) (q : Nat) : Int := n_or (n_shl (c q % 256) 8) (c (q + 1) % 256)
theorem n_tg_w : ∀ x : Nat, x < 1024 → n_or (n_shl (n_by (n_shr (x : Int) 8) % 256) 8) (n_by (x : Int) % 256) = (x : Int) := by decide +kernel
theorem n_by_s : ∀ x : Nat, x < 256 → n_by (x : Int) % 256 = (x : Int) := by decide +kernel
theorem n_by_o : ∀ x : Nat, x < 128 → n_by (x : Int) = (x : Int) := by decide +kernel
theorem n_tg_put {c : Nat → Int} {q : Nat} {x : Int} (h : 0 ≤ x ∧ x < 1024) (h1 : c q = n_by (n_shr x 8)) (h2 : c (q + 1) = n_by x) : n_tg c q = x := by
  unfold n_tg
  rw [h1, h2]
  have := n_tg_w x.toNat (by omega)
  rw [show ((x.toNat : Nat) : Int) = x from by omega] at this
  exact this
theorem n_by_small {x : Int} (h : 0 ≤ x ∧ x < 256) : n_by x % 256 = x := by
  have := n_by_s x.toNat (by omega)
  rw [show ((x.toNat : Nat) : Int) = x from by omega] at this
  exact this
def n_cv (c : Nat → Int) (z : Nat) (D : Nat → Int) (Q M : Nat → Prop) (p : Nat) : Prop :=
  (c p = 0 ∧ p + 3 ≤ z ∧ D (p + 3) = D p + 1 ∧ D (p + 1) < 0 ∧ D (p + 2) < 0) ∨
  (c p = 1 ∧ p + 2 ≤ z ∧ D (p + 2) = D p + 1 ∧ D (p + 1) < 0 ∧ c (p + 1) % 256 < D p) ∨
  ((2 ≤ c p ∧ c p ≤ 6) ∧ p + 1 ≤ z ∧ D (p + 1) = D p - 1 ∧ 2 ≤ D p) ∨
  (c p = 7 ∧ p + 3 ≤ z ∧ 0 ≤ D (p + 3) ∧ D (p + 1) < 0 ∧ D (p + 2) < 0 ∧ (Q (p + 1) ∨ ((0 ≤ n_tg c (p + 1) ∧ n_tg c (p + 1) ≤ z) ∧ D (n_tg c (p + 1)).toNat = D p))) ∨
  (c p = 8 ∧ p + 3 ≤ z ∧ D (p + 3) = D p - 1 ∧ D (p + 1) < 0 ∧ D (p + 2) < 0 ∧ 1 ≤ D p ∧ (Q (p + 1) ∨ ((0 ≤ n_tg c (p + 1) ∧ n_tg c (p + 1) ≤ z) ∧ D (n_tg c (p + 1)).toNat = D p - 1))) ∨
  (c p = 9 ∧ p + 1 ≤ z ∧ D (p + 1) = D p - 1 ∧ 2 ≤ D p) ∨
  (c p = 10 ∧ p + 1 ≤ z ∧ D (p + 1) = D p - 1 ∧ 1 ≤ D p) ∨
  (c p = 11 ∧ p + 2 ≤ z ∧ D (p + 2) = D p ∧ D (p + 1) < 0 ∧ 1 ≤ D p ∧ c (p + 1) % 256 < D p) ∨
  (c p = 12 ∧ p + 4 ≤ z ∧ D (p + 4) = D p + 1 - c (p + 3) % 256 ∧ D (p + 1) < 0 ∧ D (p + 2) < 0 ∧ D (p + 3) < 0 ∧ c (p + 3) % 256 ≤ D p ∧ M (p + 1))
def n_BC (c : Nat → Int) (z : Nat) (D : Nat → Int) (Q M : Nat → Prop) : Prop := 0 ≤ D 0 ∧ (∀ p, z < p → D p < 0) ∧ (∀ p, p < z → 0 ≤ D p → n_cv c z D Q M p)
section N38
variable {c c' : Nat → Int} {z w p : Nat} {D D' : Nat → Int} {Q Q' M M' : Nat → Prop} {e : Int}
theorem n_cv_app (h : n_cv c z D Q M p) (hz : z ≤ w) (hc : ∀ j, j < z → c' j = c j) (hD : ∀ j, j ≤ z → D' j = D j) (hQ : ∀ q, Q q → Q' q) (hM : ∀ q, M q → M' q) : n_cv c' w D' Q' M' p := by
  unfold n_cv n_tg at *
  rcases h with h | h | h | h | h | h | h | h | h
  · left
    rw [hc p (by omega), hD p (by omega), hD (p + 1) (by omega), hD (p + 2) (by omega), hD (p + 3) (by omega)]
    exact ⟨h.1, by omega, h.2.2⟩
  · right; left
    rw [hc p (by omega), hc (p + 1) (by omega), hD p (by omega), hD (p + 1) (by omega), hD (p + 2) (by omega)]
    exact ⟨h.1, by omega, h.2.2⟩
  · right; right; left
    rw [hc p (by omega), hD p (by omega), hD (p + 1) (by omega)]
    exact ⟨h.1, by omega, h.2.2⟩
  · right; right; right; left
    rw [hc p (by omega), hc (p + 1) (by omega), hc (p + 1 + 1) (by omega), hD p (by omega), hD (p + 1) (by omega), hD (p + 2) (by omega), hD (p + 3) (by omega)]
    refine ⟨h.1, by omega, h.2.2.1, h.2.2.2.1, h.2.2.2.2.1, ?_⟩
    rcases h.2.2.2.2.2 with g | g
    · exact Or.inl (hQ _ g)
    · refine Or.inr ⟨⟨g.1.1, by omega⟩, ?_⟩
      rw [hD _ (by omega)]
      exact g.2
  · right; right; right; right; left
    rw [hc p (by omega), hc (p + 1) (by omega), hc (p + 1 + 1) (by omega), hD p (by omega), hD (p + 1) (by omega), hD (p + 2) (by omega), hD (p + 3) (by omega)]
    refine ⟨h.1, by omega, h.2.2.1, h.2.2.2.1, h.2.2.2.2.1, h.2.2.2.2.2.1, ?_⟩
    rcases h.2.2.2.2.2.2 with g | g
    · exact Or.inl (hQ _ g)
    · refine Or.inr ⟨⟨g.1.1, by omega⟩, ?_⟩
      rw [hD _ (by omega)]
      exact g.2
  · right; right; right; right; right; left
    rw [hc p (by omega), hD p (by omega), hD (p + 1) (by omega)]
    exact ⟨h.1, by omega, h.2.2⟩
  · right; right; right; right; right; right; left
    rw [hc p (by omega), hD p (by omega), hD (p + 1) (by omega)]
    exact ⟨h.1, by omega, h.2.2⟩
  · right; right; right; right; right; right; right; left
    rw [hc p (by omega), hc (p + 1) (by omega), hD p (by omega), hD (p + 1) (by omega), hD (p + 2) (by omega)]
    exact ⟨h.1, by omega, h.2.2⟩
  · right; right; right; right; right; right; right; right
    rw [hc p (by omega), hc (p + 3) (by omega), hD p (by omega), hD (p + 1) (by omega), hD (p + 2) (by omega), hD (p + 3) (by omega), hD (p + 4) (by omega)]
    exact ⟨h.1, by omega, h.2.2.1, h.2.2.2.1, h.2.2.2.2.1, h.2.2.2.2.2.1, h.2.2.2.2.2.2.1, hM _ h.2.2.2.2.2.2.2⟩
/-- a step of code is put behind -/
theorem n_BC_app (h : n_BC c z D Q M) (hw : 1 ≤ w) (hc : ∀ j, j < z → c' j = c j) (hQ : ∀ q, Q q → Q' q) (hM : ∀ q, M q → M' q) (hn : n_cv c' (z + w) (n_upd D (z + w) e) Q' M' z) : n_BC c' (z + w) (n_upd D (z + w) e) Q' M' := by
  obtain ⟨h1, h2, h3⟩ := h
  refine ⟨?_, fun p hp => ?_, fun p hp hd => ?_⟩
  · rw [n_u_ne (by omega)]
    exact h1
  · rw [n_u_ne (by omega)]
    exact h2 p (by omega)
  · by_cases hpz : p < z
    · rw [n_u_ne (by omega)] at hd
      exact n_cv_app (h3 p hpz hd) (by omega) hc (fun j hj => n_u_ne (by omega)) hQ hM
    · by_cases hpe : p = z
      · rw [hpe]
        exact hn
      · rw [n_u_ne (by omega)] at hd
        have := h2 p (by omega)
        omega
/-- a jump's place is set -/
theorem n_BC_fill (h : n_BC c z D Q M) (hp : 0 ≤ D p) (hpz : p + 3 ≤ z) (hop : (c p = 7 ∧ D z = D p) ∨ (c p = 8 ∧ D z = D p - 1)) (hc : ∀ j, j ≠ p + 1 → j ≠ p + 2 → c' j = c j) (ht : n_tg c' (p + 1) = z) (hQ : ∀ q, Q q → q ≠ p + 1 → Q' q) : n_BC c' z D Q' M := by
  obtain ⟨h1, h2, h3⟩ := h
  have hin : D (p + 1) < 0 ∧ D (p + 2) < 0 := by
    have := h3 p (by omega) hp
    unfold n_cv at this
    omega
  refine ⟨h1, h2, fun p' hp' hd => ?_⟩
  have g := h3 p' hp' hd
  by_cases hpe : p' = p
  · subst hpe
    have e0 := hc p' (by omega) (by omega)
    unfold n_cv at *
    rcases hop with ⟨o1, o2⟩ | ⟨o1, o2⟩
    · right; right; right; left
      rw [e0]
      refine ⟨o1, by omega, ?_, hin.1, hin.2, Or.inr ⟨by rw [ht]; omega, by rw [ht]; simpa using o2⟩⟩
      omega
    · right; right; right; right; left
      rw [e0]
      refine ⟨o1, by omega, ?_, hin.1, hin.2, ?_, Or.inr ⟨by rw [ht]; omega, by rw [ht]; simpa using o2⟩⟩
      · omega
      · omega
  · have ne1 : ¬ p' = p + 1 := fun h => by rw [h] at hd; omega
    have ne2 : ¬ p' = p + 2 := fun h => by rw [h] at hd; omega
    have q1 : p' + 1 = p → 0 ≤ D (p' + 1) := fun h => by rw [h]; exact hp
    have q2 : p' + 2 = p → 0 ≤ D (p' + 2) := fun h => by rw [h]; exact hp
    have q3 : p' + 3 = p → 0 ≤ D (p' + 3) := fun h => by rw [h]; exact hp
    have e0 := hc p' (by omega) (by omega)
    unfold n_cv n_tg at *
    rcases g with g | g | g | g | g | g | g | g | g
    · left
      rw [e0]
      exact g
    · right; left
      rw [e0, hc (p' + 1) (by omega) (by omega)]
      exact g
    · right; right; left
      rw [e0]
      exact g
    · right; right; right; left
      rw [e0, hc (p' + 1) (by omega) (by omega), hc (p' + 1 + 1) (by omega) (by omega)]
      refine ⟨g.1, g.2.1, g.2.2.1, g.2.2.2.1, g.2.2.2.2.1, ?_⟩
      rcases g.2.2.2.2.2 with k | k
      · exact Or.inl (hQ _ k (by omega))
      · exact Or.inr k
    · right; right; right; right; left
      rw [e0, hc (p' + 1) (by omega) (by omega), hc (p' + 1 + 1) (by omega) (by omega)]
      refine ⟨g.1, g.2.1, g.2.2.1, g.2.2.2.1, g.2.2.2.2.1, g.2.2.2.2.2.1, ?_⟩
      rcases g.2.2.2.2.2.2 with k | k
      · exact Or.inl (hQ _ k (by omega))
      · exact Or.inr k
    · right; right; right; right; right; left
      rw [e0]
      exact g
    · right; right; right; right; right; right; left
      rw [e0]
      exact g
    · right; right; right; right; right; right; right; left
      rw [e0, hc (p' + 1) (by omega) (by omega)]
      exact g
    · right; right; right; right; right; right; right; right
      rw [e0, hc (p' + 3) (by omega) (by omega)]
      exact g
end N38
