/-! THE REFERENCE BETWEEN TWO CALLS -/
def n_UV (s : nS) (u : Nat) (D : Nat → Int) (z : Nat) : Prop :=
  n_BC (fun j => s.2 31 (200 * u + j)) z D (fun _ => False) (fun q => ∃ j : Nat, (j : Int) < s.2 32 u ∧ s.2 33 (50 * u + j) = (q : Int)) ∧
  (∀ j : Nat, (j : Int) < s.2 32 u → ∃ p : Nat, s.2 33 (50 * u + j) = (p : Int) + 1 ∧ p + 4 ≤ z ∧ 0 ≤ D p ∧ s.2 31 (200 * u + p) = 12) ∧
  D 0 = s.2 29 u ∧ D z = s.2 29 u + 1 ∧
  ((s.2 27 u = 0 ∧ s.2 31 (200 * u + z) = 14 ∧ s.2 30 u = (z : Int) + 1) ∨ (s.2 27 u = 1 ∧ s.2 31 (200 * u + z) = 13 ∧ s.2 30 u = (z : Int) + 2)) ∧ s.2 30 u ≤ 200 ∧ (0 ≤ s.2 32 u ∧ s.2 32 u ≤ 50)
def n_rdK (s : nS) (u : Nat) : Int := n_rp (n_at1 s u) true 200 0 0 true false
def n_U1 (s : nS) (u : Nat) : Prop := (0 ≤ s.2 29 u ∧ s.2 29 u ≤ 4) ∧ (s.2 27 u = 2 → (s.2 30 u = 0 ∧ s.2 32 u = 0) ∧ (0 ≤ s.2 37 u ∧ s.2 37 u ≤ 120) ∧ n_rdK s u = -1) ∧ (¬ s.2 27 u = 2 → ∃ D z, n_UV s u D z) ∧ (s.2 27 u = 0 → s.2 29 u = 0)
def n_UI (s : nS) : Prop := (0 ≤ s.1 2 ∧ s.1 2 ≤ 16) ∧ (∀ i, (n_rng (s.2 27 i) ∧ n_rng (s.2 28 i)) ∧ n_rng (s.2 29 i) ∧ n_rng (s.2 34 i) ∧ n_rng (s.2 35 i)) ∧ (∀ u : Nat, (u : Int) < s.1 2 → n_U1 s u)
def n_TT (s : nS) : Prop := (0 ≤ s.1 1 ∧ s.1 1 ≤ 120) ∧ (∀ i, 0 ≤ s.2 26 i ∧ s.2 26 i < 128) ∧ (∀ i : Nat, (i : Int) < s.1 1 → 31 < s.2 26 i) ∧ (∀ i, 0 ≤ s.2 36 i ∧ s.2 36 i < 128)
def n_XI (s : nS) : Prop := (∀ i, n_rng (s.2 52 i)) ∧ ∃ D K, n_IV s D K ∧ n_RS s D K ∧ (¬ s.1 46 = 0 → D 0 = 0 ∧ K 0 = false)
def n_MI (s : nS) : Prop := n_TT s ∧ n_UI s ∧ n_XI s
section N50
variable {s t : nS} {D : Nat → Int} {z u : Nat} {w nm n fr : Int}
theorem n_at1_m {m k : Int} (h : 0 ≤ m) : n_at1 s m k = if k < s.2 37 m.toNat then s.2 36 (120 * m + k).toNat else 0 := by
  unfold n_at1
  rw [if_neg (show ¬ m < 0 by omega)]
theorem n_UV_fr (h : n_UV s u D z) (e : ∀ a i, 27 ≤ a ∧ a ≤ 37 → t.2 a i = s.2 a i) : n_UV t u D z := by
  have e1 : ∀ a, 27 ≤ a ∧ a ≤ 37 → t.2 a = s.2 a := fun a ha => funext (fun i => e a i ha)
  unfold n_UV at *
  rw [e1 27 (by decide), e1 29 (by decide), e1 30 (by decide), e1 31 (by decide), e1 32 (by decide), e1 33 (by decide)]
  exact h
theorem n_U1_fr (h : n_U1 s u) (e : ∀ a i, 27 ≤ a ∧ a ≤ 37 → t.2 a i = s.2 a i) : n_U1 t u := by
  obtain ⟨h1, h2, h3, h4⟩ := h
  have e1 : ∀ a, 27 ≤ a ∧ a ≤ 37 → t.2 a = s.2 a := fun a ha => funext (fun i => e a i ha)
  have ea : n_at1 t u = n_at1 s u := by
    funext k
    rw [n_at1_m (by omega), n_at1_m (by omega), e1 37 (by decide), e1 36 (by decide)]
  refine ⟨?_, ?_, ?_, ?_⟩
  · rw [e1 29 (by decide)]; exact h1
  · unfold n_rdK at *
    rw [ea, e1 27 (by decide), e1 30 (by decide), e1 32 (by decide), e1 37 (by decide)]
    exact h2
  · rw [e1 27 (by decide)]
    intro hn
    obtain ⟨D, z, hD⟩ := h3 hn
    exact ⟨D, z, n_UV_fr hD e⟩
  · rw [e1 27 (by decide), e1 29 (by decide)]; exact h4
theorem n_UI_fr (h : n_UI s) (e2 : t.1 2 = s.1 2) (e : ∀ a i, 27 ≤ a ∧ a ≤ 37 → t.2 a i = s.2 a i) : n_UI t := by
  obtain ⟨h1, h2, h3⟩ := h
  refine ⟨by rw [e2]; exact h1, fun i => ?_, fun u hu => n_U1_fr (h3 u (by rw [← e2]; exact hu)) e⟩
  rw [e 27 i (by decide), e 28 i (by decide), e 29 i (by decide), e 34 i (by decide), e 35 i (by decide)]
  exact h2 i
theorem n_RS_fr {K : Nat → Bool} (h : n_RS s D K) (e1 : ∀ k, 46 ≤ k ∧ k ≤ 53 → t.1 k = s.1 k) (e2 : ∀ a i, 54 ≤ a ∧ a ≤ 57 → t.2 a i = s.2 a i) : n_RS t D K := by
  have e3 : ∀ a, 54 ≤ a ∧ a ≤ 57 → t.2 a = s.2 a := fun a ha => funext (fun i => e2 a i ha)
  unfold n_RS n_RR n_CF at *
  rw [e1 46 (by decide), e1 48 (by decide), e1 49 (by decide), e1 50 (by decide), e1 51 (by decide), e1 52 (by decide), e3 55 (by decide), e3 56 (by decide), e3 57 (by decide)]
  exact h
theorem n_XI_fr (h : n_XI s) (e1 : ∀ k, 46 ≤ k ∧ k ≤ 53 → t.1 k = s.1 k) (e2 : ∀ a i, 54 ≤ a ∧ a ≤ 57 → t.2 a i = s.2 a i) (e5 : ∀ i, n_rng (t.2 52 i)) : n_XI t := by
  obtain ⟨h1, D, K, h2, h3, h4⟩ := h
  exact ⟨e5, D, K, n_IV_fr h2 (e1 46 (by decide)) (fun i => e2 54 i (by decide)), n_RS_fr h3 e1 e2, by rw [e1 46 (by decide)]; exact h4⟩
/-- what a compile may touch, units aside -/
def n_ce (s t : nS) : Prop := (∀ k, ¬ (k = 0 ∨ k = 1 ∨ k = 3 ∨ k = 17 ∨ k = 18 ∨ (23 ≤ k ∧ k ≤ 25) ∨ (28 ≤ k ∧ k ≤ 34)) → t.1 k = s.1 k) ∧ (∀ a i, ¬ (38 ≤ a ∧ a ≤ 51) → t.2 a i = s.2 a i)
theorem n_ce_tr {a b c : nS} (h : n_ce a b) (g : n_ce b c) : n_ce a c := ⟨fun k hk => by rw [g.1 k hk, h.1 k hk], fun x i hx => by rw [g.2 x i hx, h.2 x i hx]⟩
theorem n_ce_bf {b : nS} (h : n_bf s b) : n_ce s b := ⟨fun k hk => h.1 k (by omega), h.2⟩
theorem n_ce_fr {b : nS} (h : n_fr s b) : n_ce s b := ⟨fun k hk => h.1 k (by omega), fun a i ha => h.2 a i (by omega)⟩
theorem n_ce_u {k : Nat} {x : Int} (hk : k = 0 ∨ k = 1 ∨ k = 3 ∨ k = 17 ∨ k = 18 ∨ (23 ≤ k ∧ k ≤ 25) ∨ (28 ≤ k ∧ k ≤ 34)) : n_ce s (n_upd s.1 k x, s.2) := ⟨fun j hj => n_u_ne (fun h => hj (by rw [h]; exact hk)), fun _ _ _ => rfl⟩
theorem n_MI_ce (h : n_MI s) (hc : n_ce s t) (h1 : t.1 1 = 0) : n_MI t := by
  obtain ⟨⟨a1, a2, a3, a4⟩, b1, c1⟩ := h
  refine ⟨⟨by rw [h1]; decide, fun i => ?_, fun i hi => ?_, fun i => ?_⟩, n_UI_fr b1 (hc.1 2 (by decide)) (fun a i ha => hc.2 a i (by omega)), n_XI_fr c1 (fun k hk => hc.1 k (by omega)) (fun a i ha => hc.2 a i (by omega)) (fun i => ?_)⟩
  · rw [hc.2 26 i (by decide)]; exact a2 i
  · rw [h1] at hi; omega
  · rw [hc.2 36 i (by decide)]; exact a4 i
  · rw [hc.2 52 i (by decide)]; exact c1.1 i
theorem n_MI_MU (h : n_MI s) (hc : n_ce s t) (h1 : t.1 1 = s.1 1) : n_MU t := by
  obtain ⟨⟨a1, a2, a3, a4⟩, ⟨b1, b2, b3⟩, c1⟩ := h
  have e2 := hc.1 2 (by decide)
  refine ⟨by rw [e2]; exact b1, fun i => ?_, fun i => ?_, fun m m1 m2 m3 => ?_⟩
  · rw [hc.2 27 i (by decide), hc.2 28 i (by decide)]
    exact (b2 i).1
  · rw [hc.2 35 i (by decide)]
    exact (b2 i).2.2.2
  · rw [hc.2 27 _ (by decide)] at m3
    obtain ⟨u1, u2, -, -⟩ := b3 m.toNat (by omega)
    obtain ⟨-, u3, u4⟩ := u2 m3
    rw [hc.2 29 _ (by decide)]
    refine ⟨u1, ⟨by rw [h1]; exact a1, ⟨by omega, by omega⟩, fun _ => by rw [hc.2 37 _ (by decide)]; exact u3, fun i => by rw [hc.2 26 i (by decide)]; exact a2 i, fun i => by rw [hc.2 36 i (by decide)]; exact a4 i⟩, ?_⟩
    unfold n_rdK at u4
    unfold n_read
    rw [decide_eq_true m1, ← u4]
    have ea : n_at1 t m = n_at1 s m.toNat := by
      funext k
      rw [n_at1_m m1, n_at1_m (by omega), hc.2 37 _ (by decide), hc.2 36 _ (by decide), show ((m.toNat : Nat) : Int) = m from by omega]
    rw [ea]
/-- kept code is as good -/
theorem n_cv_b {c c' : Nat → Int} {Q M M' : Nat → Prop} {p z : Nat} (h : n_cv c z D Q M p) (hc : ∀ j, j < z → c' j = n_b (c j)) (hM : ∀ q, M q → M' q) : n_cv c' z D Q M' p := by
  have ht : ∀ q, q + 1 < z → n_tg c' q = n_tg c q := fun q hq => by
    unfold n_tg
    rw [hc q (by omega), hc (q + 1) hq, n_b_mod, n_b_mod]
  unfold n_cv at *
  rcases h with h | h | h | h | h | h | h | h | h
  · left
    rw [hc p (by omega), n_b_id (by omega)]
    exact h
  · right; left
    rw [hc p (by omega), hc (p + 1) (by omega), n_b_id (by omega), n_b_mod]
    exact h
  · right; right; left
    rw [hc p (by omega), n_b_id (by omega)]
    exact h
  · right; right; right; left
    rw [hc p (by omega), ht (p + 1) (by omega), n_b_id (by omega)]
    exact h
  · right; right; right; right; left
    rw [hc p (by omega), ht (p + 1) (by omega), n_b_id (by omega)]
    exact h
  · right; right; right; right; right; left
    rw [hc p (by omega), n_b_id (by omega)]
    exact h
  · right; right; right; right; right; right; left
    rw [hc p (by omega), n_b_id (by omega)]
    exact h
  · right; right; right; right; right; right; right; left
    rw [hc p (by omega), hc (p + 1) (by omega), n_b_id (by omega), n_b_mod]
    exact h
  · right; right; right; right; right; right; right; right
    rw [hc p (by omega), hc (p + 3) (by omega), n_b_id (by omega), n_b_mod]
    exact ⟨h.1, h.2.1, h.2.2.1, h.2.2.2.1, h.2.2.2.2.1, h.2.2.2.2.2.1, h.2.2.2.2.2.2.1, hM _ h.2.2.2.2.2.2.2⟩
end N50
