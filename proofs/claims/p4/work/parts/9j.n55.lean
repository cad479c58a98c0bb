/-! CODE IN THE IMAGE -/
/-- a unit's code c in the image A from F on; J: jumps that are moved; T: what calls' places are -/
def n_IM (A : Nat → Int) (F : Nat) (c D : Nat → Int) (z : Nat) (J : Nat → Prop) (T : Nat → Int → Prop) : Prop := ∀ p, p ≤ z → 0 ≤ D p → A (F + p) = c p ∧ ((c p = 1 ∨ c p = 11) → A (F + p + 1) % 256 = c (p + 1) % 256) ∧ ((c p = 7 ∨ c p = 8) → J p → n_tg A (F + p + 1) = F + n_tg c (p + 1)) ∧ (c p = 12 → A (F + p + 3) % 256 = c (p + 3) % 256 ∧ T p (n_tg A (F + p + 1)))
/-- the raw code, its last step too -/
def n_CZ (c D : Nat → Int) (z : Nat) (M : Nat → Prop) : Prop := n_BC c z D (fun _ => False) M ∧ 0 ≤ D z ∧ (c z = 13 ∨ c z = 14)
section N55
variable {A A' : Nat → Int} {F z p0 : Nat} {c D : Nat → Int} {J J' M : Nat → Prop} {T T' : Nat → Int → Prop} {x : Int}
theorem n_IM_fr (h : n_IM A F c D z J T) (hC : n_CZ c D z M) (hA : ∀ j, j ≤ z → A' (F + j) = A (F + j)) : n_IM A' F c D z J T := by
  intro p hp hD
  obtain ⟨h1, h2, h3, h4⟩ := h p hp hD
  have e0 := hA p hp
  by_cases hz : p = z
  · subst hz
    have := hC.2.2
    refine ⟨by rw [e0]; exact h1, fun q => by omega, fun q => by omega, fun q => by omega⟩
  have hcv := hC.1.2.2 p (by omega) hD
  unfold n_cv at hcv
  refine ⟨by rw [e0]; exact h1, fun q => ?_, fun q j => ?_, fun q => ?_⟩
  · have : p + 2 ≤ z := by omega
    rw [show F + p + 1 = F + (p + 1) from by omega, hA (p + 1) (by omega)]
    exact h2 q
  · have : p + 3 ≤ z := by omega
    have := h3 q j
    unfold n_tg at this ⊢
    rw [show F + p + 1 = F + (p + 1) from by omega, show F + (p + 1) + 1 = F + (p + 2) from by omega] at this ⊢
    rw [hA (p + 1) (by omega), hA (p + 2) (by omega)]
    exact this
  · have : p + 4 ≤ z := by omega
    have := h4 q
    unfold n_tg at this ⊢
    rw [show F + p + 1 = F + (p + 1) from by omega, show F + (p + 1) + 1 = F + (p + 2) from by omega, show F + p + 3 = F + (p + 3) from by omega] at this ⊢
    rw [hA (p + 1) (by omega), hA (p + 2) (by omega), hA (p + 3) (by omega)]
    exact this
/-- a place is put into the image -/
theorem n_IM_w (h : n_IM A F c D z J T) (hC : n_CZ c D z M) (hp0 : p0 < z) (hD0 : 0 ≤ D p0) (hop : c p0 = 7 ∨ c p0 = 8 ∨ c p0 = 12) (hA : ∀ j, j ≠ F + p0 + 1 → j ≠ F + p0 + 2 → A' j = A j) (hx : n_tg A' (F + p0 + 1) = x) (hJ : ∀ p, p ≠ p0 → J' p → J p) (hT : ∀ p y, p ≠ p0 → T p y → T' p y) (hJ0 : (c p0 = 7 ∨ c p0 = 8) → x = F + n_tg c (p0 + 1)) (hT0 : c p0 = 12 → T' p0 x) : n_IM A' F c D z J' T' := by
  have hin : D (p0 + 1) < 0 ∧ D (p0 + 2) < 0 ∧ p0 + 3 ≤ z := by
    have := hC.1.2.2 p0 hp0 hD0
    unfold n_cv at this
    omega
  intro p hp hD
  obtain ⟨h1, h2, h3, h4⟩ := h p hp hD
  by_cases hpe : p = p0
  · subst hpe
    rw [hA (F + p) (by omega) (by omega)]
    refine ⟨h1, fun q => by omega, fun q _ => by rw [hx]; exact hJ0 q, fun q => ⟨?_, by rw [hx]; exact hT0 q⟩⟩
    rw [hA (F + p + 3) (by omega) (by omega)]
    exact (h4 q).1
  have ne1 : ¬ p = p0 + 1 := fun h => by rw [h] at hD; omega
  have ne2 : ¬ p = p0 + 2 := fun h => by rw [h] at hD; omega
  rw [hA (F + p) (by omega) (by omega)]
  by_cases hz : p = z
  · subst hz
    have := hC.2.2
    exact ⟨h1, fun q => by omega, fun q => by omega, fun q => by omega⟩
  have hcv := hC.1.2.2 p (by omega) hD
  have q1 : p + 1 = p0 → 0 ≤ D (p + 1) := fun h => by rw [h]; exact hD0
  have q2 : p + 2 = p0 → 0 ≤ D (p + 2) := fun h => by rw [h]; exact hD0
  have q3 : p + 3 = p0 → 0 ≤ D (p + 3) := fun h => by rw [h]; exact hD0
  unfold n_cv at hcv
  refine ⟨h1, fun q => ?_, fun q j => ?_, fun q => ?_⟩
  · rw [hA (F + p + 1) (by omega) (by omega)]
    exact h2 q
  · have := h3 q (hJ p hpe j)
    unfold n_tg at this ⊢
    rw [hA (F + p + 1) (by omega) (by omega), hA (F + p + 1 + 1) (by omega) (by omega)]
    exact this
  · obtain ⟨g1, g2⟩ := h4 q
    rw [hA (F + p + 3) (by omega) (by omega)]
    refine ⟨g1, hT p _ hpe ?_⟩
    unfold n_tg at g2 ⊢
    rw [hA (F + p + 1) (by omega) (by omega), hA (F + p + 1 + 1) (by omega) (by omega)]
    exact g2
/-- the next step's place -/
theorem n_nxt {p : Nat} (hC : n_CZ c D z M) (hp : p < z) (hD : 0 ≤ D p) : (0 ≤ c p ∧ c p ≤ 12) ∧ p + (n_wide (c p)).toNat ≤ z ∧ 0 ≤ D (p + (n_wide (c p)).toNat) ∧ 1 ≤ n_wide (c p) ∧ n_wide (c p) ≤ 4 := by
  have hcv := hC.1.2.2 p hp hD
  unfold n_cv at hcv
  unfold n_wide
  rcases hcv with h | h | h | h | h | h | h | h | h
  · rw [if_pos (by omega)]
    exact ⟨by omega, by have := h.2.1; show p + 3 ≤ z; omega, by show 0 ≤ D (p + 3); omega, by decide, by decide⟩
  · rw [if_neg (by omega), if_pos (by omega)]
    exact ⟨by omega, by have := h.2.1; show p + 2 ≤ z; omega, by show 0 ≤ D (p + 2); omega, by decide, by decide⟩
  · rw [if_neg (by omega), if_neg (by omega), if_neg (by omega)]
    exact ⟨by omega, by have := h.2.1; show p + 1 ≤ z; omega, by show 0 ≤ D (p + 1); omega, by decide, by decide⟩
  · rw [if_pos (by omega)]
    exact ⟨by omega, by have := h.2.1; show p + 3 ≤ z; omega, h.2.2.1, by decide, by decide⟩
  · rw [if_pos (by omega)]
    exact ⟨by omega, by have := h.2.1; show p + 3 ≤ z; omega, by show 0 ≤ D (p + 3); omega, by decide, by decide⟩
  · rw [if_neg (by omega), if_neg (by omega), if_neg (by omega)]
    exact ⟨by omega, by have := h.2.1; show p + 1 ≤ z; omega, by show 0 ≤ D (p + 1); omega, by decide, by decide⟩
  · rw [if_neg (by omega), if_neg (by omega), if_neg (by omega)]
    exact ⟨by omega, by have := h.2.1; show p + 1 ≤ z; omega, by show 0 ≤ D (p + 1); omega, by decide, by decide⟩
  · rw [if_neg (by omega), if_pos (by omega)]
    exact ⟨by omega, by have := h.2.1; show p + 2 ≤ z; omega, by show 0 ≤ D (p + 2); omega, by decide, by decide⟩
  · rw [if_neg (by omega), if_neg (by omega), if_pos (by omega)]
    exact ⟨by omega, by have := h.2.1; show p + 4 ≤ z; omega, by show 0 ≤ D (p + 4); omega, by decide, by decide⟩
/-- bytes as they are -/
theorem n_IM_raw (hC : n_CZ c D z M) (hA : ∀ j, j ≤ z → A (F + j) = n_b (c j)) : n_IM A F c D z (fun _ => False) (fun _ _ => True) := by
  intro p hp hD
  by_cases hz : p = z
  · subst hz
    have := hC.2.2
    rw [hA p (Nat.le_refl _), n_b_id (by omega)]
    exact ⟨rfl, fun q => by omega, fun q => by omega, fun q => by omega⟩
  have hcv := hC.1.2.2 p (by omega) hD
  have hn := n_nxt hC (by omega) hD
  rw [hA p hp, n_b_id (by omega)]
  unfold n_cv at hcv
  refine ⟨rfl, fun q => ?_, fun _ j => j.elim, fun q => ⟨?_, trivial⟩⟩
  · rw [show F + p + 1 = F + (p + 1) from by omega, hA (p + 1) (by omega), n_b_mod]
  · rw [show F + p + 3 = F + (p + 3) from by omega, hA (p + 3) (by omega), n_b_mod]
end N55
