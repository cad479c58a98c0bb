/-! WHAT HOLDS WHILE THE REFERENCE READS: b the state at its beginning, B how high its arguments are -/
def n_LV (b s : nS) (H O : Nat → Int) (B : Int) (l : Nat) : Prop := (b.1 17 ≤ s.2 42 l ∧ s.2 42 l < s.1 17) ∧ H (s.2 42 l).toNat = B + 9 - l ∧ (s.2 43 l = -1 ∨ (b.1 18 ≤ s.2 43 l ∧ s.2 43 l < s.1 18 ∧ O (s.2 43 l).toNat = s.2 42 l))
def n_fr (b s : nS) : Prop := (∀ k, k ≠ 17 ∧ k ≠ 18 ∧ k ≠ 23 ∧ k ≠ 24 ∧ k ≠ 25 → s.1 k = b.1 k) ∧ (∀ a i, ¬ (38 ≤ a ∧ a ≤ 43) → s.2 a i = b.2 a i)
def n_old (b : nS) (Hb Ob : Nat → Int) (s : nS) (H O : Nat → Int) : Prop := b.1 17 ≤ s.1 17 ∧ b.1 18 ≤ s.1 18 ∧ (∀ i : Nat, (i : Int) < b.1 17 → s.2 38 i = b.2 38 i ∧ s.2 39 i = b.2 39 i ∧ H i = Hb i) ∧ (∀ j : Nat, (j : Int) < b.1 18 → s.2 40 j = b.2 40 j ∧ s.2 41 j = b.2 41 j ∧ O j = Ob j)
def n_RW (b : nS) (Hb Ob : Nat → Int) (B : Int) (s : nS) (H O : Nat → Int) : Prop := n_fr b s ∧ n_FI s H O ∧ n_old b Hb Ob s H O ∧ (∀ l : Nat, 1 ≤ l → (l : Int) ≤ s.1 25 → n_LV b s H O B l)
section N11
variable {b s : nS} {Hb Ob H O : Nat → Int} {B : Int}
theorem n_RW_P {x : Int} (h : n_RW b Hb Ob B s H O) : n_RW b Hb Ob B (n_upd s.1 23 x, s.2) H O := by
  obtain ⟨⟨h1, h1'⟩, h2, h3, h4⟩ := h
  exact ⟨⟨fun k hk => by show n_upd s.1 23 x k = _; rw [n_u_ne hk.2.2.1]; exact h1 k hk, h1'⟩, h2, h3, h4⟩
theorem n_RW_W {x : Int} (h : n_RW b Hb Ob B s H O) : n_RW b Hb Ob B (n_upd s.1 24 x, s.2) H O := by
  obtain ⟨⟨h1, h1'⟩, h2, h3, h4⟩ := h
  exact ⟨⟨fun k hk => by show n_upd s.1 24 x k = _; rw [n_u_ne hk.2.2.2.1]; exact h1 k hk, h1'⟩, h2, h3, h4⟩
theorem n_RW_close {x : Int} (h : n_RW b Hb Ob B s H O) (hx : x ≤ s.1 25) : n_RW b Hb Ob B (n_upd s.1 25 x, s.2) H O := by
  obtain ⟨⟨h1, h1'⟩, h2, h3, h4⟩ := h
  exact ⟨⟨fun k hk => by show n_upd s.1 25 x k = _; rw [n_u_ne hk.2.2.2.2]; exact h1 k hk, h1'⟩, h2, h3, fun l hl1 hl2 => h4 l hl1 (by have : (l : Int) ≤ x := hl2; omega)⟩
theorem n_RW_mk {w v hh : Int} (h : n_RW b Hb Ob B s H O) (hb : 0 ≤ b.1 17) (hf : s.1 17 < 1300) (hw : w = 0 ∨ w = 1 ∨ w = 2) (hv : w ≠ 0 → n_rng v) (h2 : w = 2 → v = -1) (hh0 : 0 ≤ hh) : n_RW b Hb Ob B (n_mk s w v) (n_upd H (s.1 17).toNat hh) O := by
  obtain ⟨⟨h1, h1'⟩, h2', h3, h4⟩ := h
  obtain ⟨o1, o2, o3, o4⟩ := h3
  refine ⟨⟨fun k hk => ?_, fun a i ha => ?_⟩, n_FI_mk h2' hf hw hv h2 hh0, ⟨?_, o2, fun i hi => ?_, fun j hj => ?_⟩, fun l hl1 hl2 => ?_⟩
  · show n_upd s.1 17 _ k = _
    rw [n_u_ne hk.1]
    exact h1 k hk
  · dsimp only [n_mk]
    rw [n_ua_ne (by omega), n_ua_ne (by omega)]
    exact h1' a i ha
  · show b.1 17 ≤ s.1 17 + 1
    omega
  · dsimp only [n_mk]
    rw [n_ua_ne (by decide), n_ua_eq, if_neg (by omega), n_ua_eq, if_neg (by omega), n_ua_ne (by decide), n_u_ne (by omega)]
    exact o3 i hi
  · dsimp only [n_mk]
    rw [n_ua_ne (by decide), n_ua_ne (by decide), n_ua_ne (by decide), n_ua_ne (by decide)]
    exact o4 j hj
  · obtain ⟨l1, l2, l3⟩ := h4 l hl1 hl2
    unfold n_LV
    dsimp only [n_mk]
    rw [n_ua_ne (by decide), n_ua_ne (by decide), n_ua_ne (by decide), n_ua_ne (by decide), n_u_eq (S := s.1), n_u_ne (S := s.1) (show 18 ≠ 17 by decide), n_u_ne (S := H) (by omega)]
    exact ⟨⟨by omega, by omega⟩, l2, l3⟩
theorem n_RW_jn {f : Int} (h : n_RW b Hb Ob B s H O) (hb : 0 ≤ b.1 17 ∧ 0 ≤ b.1 18) (ho : 1 ≤ s.1 25) (hc : s.1 18 < 1300) (hf : 0 ≤ f ∧ f < s.1 17) (hH : H f.toNat < B + 9 - s.1 25) : n_RW b Hb Ob B (n_jn s f) H (n_upd O (s.1 18).toNat (s.2 42 (s.1 25).toNat)) := by
  obtain ⟨⟨h1, h1'⟩, h2', h3, h4⟩ := h
  obtain ⟨o1, o2, o3, o4⟩ := h3
  obtain ⟨⟨l1, l1'⟩, l2, l3⟩ := h4 (s.1 25).toNat (by omega) (by omega)
  refine ⟨⟨fun k hk => ?_, fun a i ha => ?_⟩, n_FI_jn h2' hc hf ⟨by omega, l1'⟩ (by omega) (by rcases l3 with l3 | l3; exact Or.inl l3; exact Or.inr ⟨by omega, l3.2.1, l3.2.2⟩), ⟨o1, ?_, fun i hi => ?_, fun j hj => ?_⟩, fun l hl1 hl2 => ?_⟩
  · show n_upd s.1 18 _ k = _
    rw [n_u_ne hk.2.1]
    exact h1 k hk
  · rw [n_jnA (by omega)]
    exact h1' a i ha
  · show b.1 18 ≤ s.1 18 + 1
    omega
  · rw [n_jn38, n_jn39, if_neg (by omega)]
    exact o3 i hi
  · rw [n_jn40, n_jn41, if_neg (by omega), if_neg (by rcases l3 with l3 | l3 <;> omega), if_neg (by omega), n_u_ne (by omega)]
    exact o4 j hj
  · have hl2 : (l : Int) ≤ s.1 25 := hl2
    obtain ⟨m1, m2, m3⟩ := h4 l hl1 hl2
    unfold n_LV
    rw [n_jn42, n_jn43]
    have e17 : (n_jn s f).1 17 = s.1 17 := rfl
    have e18 : (n_jn s f).1 18 = s.1 18 + 1 := rfl
    rw [e17, e18]
    refine ⟨m1, m2, ?_⟩
    by_cases hq : l = (s.1 25).toNat
    · subst hq
      rw [if_pos rfl, n_u_eq]
      exact Or.inr ⟨by omega, by omega, rfl⟩
    · rw [if_neg hq]
      rcases m3 with m3 | ⟨m3, m4, m5⟩
      · exact Or.inl m3
      · exact Or.inr ⟨m3, by omega, by rw [n_u_ne (by omega)]; exact m5⟩
/-- a list is opened: f its form -/
def n_op (s : nS) (f : Int) : nS := (n_upd (n_upd s.1 23 (s.1 23 + 1)) 25 (s.1 25 + 1), n_updA (n_updA s.2 42 (s.1 25 + 1).toNat f) 43 (s.1 25 + 1).toNat (-1))
theorem n_RW_op {f : Int} (h : n_RW b Hb Ob B s H O) (hb : 0 ≤ b.1 17) (ho : 0 ≤ s.1 25) (hf : b.1 17 ≤ f ∧ f < s.1 17) (hH : H f.toNat = B + 8 - s.1 25) : n_RW b Hb Ob B (n_op s f) H O := by
  obtain ⟨⟨h1, h1'⟩, h2', h3, h4⟩ := h
  have kA : ∀ a i, a ≠ 42 ∧ a ≠ 43 → (n_op s f).2 a i = s.2 a i := fun a i ha => by
    dsimp only [n_op]
    rw [n_ua_ne ha.2, n_ua_ne ha.1]
  have e17 : (n_op s f).1 17 = s.1 17 := rfl
  have e18 : (n_op s f).1 18 = s.1 18 := rfl
  have e25 : (n_op s f).1 25 = s.1 25 + 1 := rfl
  refine ⟨⟨fun k hk => ?_, fun a i ha => ?_⟩, ?_, ?_, fun l hl1 hl2 => ?_⟩
  · show n_upd (n_upd s.1 23 _) 25 _ k = _
    rw [n_u_ne hk.2.2.2.2, n_u_ne hk.2.2.1]
    exact h1 k hk
  · rw [kA a i (by omega)]
    exact h1' a i ha
  · unfold n_FI n_FIf n_FIc
    simp only [kA 38 _ (by decide), kA 39 _ (by decide), kA 40 _ (by decide), kA 41 _ (by decide), e17, e18]
    exact h2'
  · unfold n_old
    simp only [kA 38 _ (by decide), kA 39 _ (by decide), kA 40 _ (by decide), kA 41 _ (by decide), e17, e18]
    exact h3
  · rw [e25] at hl2
    unfold n_LV
    dsimp only [n_op]
    rw [n_ua_ne (show 42 ≠ 43 by decide), n_ua_eq, n_ua_eq, n_ua_ne (show 43 ≠ 42 by decide)]
    rw [n_u_ne (show 17 ≠ 25 by decide), n_u_ne (show 17 ≠ 23 by decide), n_u_ne (show 18 ≠ 25 by decide), n_u_ne (show 18 ≠ 23 by decide)]
    by_cases hq : l = (s.1 25 + 1).toNat
    · rw [if_pos hq, if_pos hq]
      exact ⟨hf, by rw [hH]; omega, Or.inl rfl⟩
    · rw [if_neg hq, if_neg hq]
      exact h4 l hl1 (by omega)
end N11
