/-! THE REFERENCE'S MACHINE. D: how high the stack stands above its frame where a step begins (below 0: no step begins there); K: the place is a function's -/
def n_IVp (s : nS) (D : Nat → Int) (K : Nat → Bool) (p : Nat) : Prop :=
  (s.2 54 p = 0 ∧ (p : Int) + 3 < s.1 46 ∧ D (p + 3) = D p + 1 ∧ K (p + 3) = K p) ∨
  (s.2 54 p = 1 ∧ (p : Int) + 2 < s.1 46 ∧ s.2 54 (p + 1) % 256 < D p ∧ D (p + 2) = D p + 1 ∧ K (p + 2) = K p) ∨
  ((2 ≤ s.2 54 p ∧ s.2 54 p ≤ 6) ∧ (p : Int) + 1 < s.1 46 ∧ 2 ≤ D p ∧ D (p + 1) = D p - 1 ∧ K (p + 1) = K p) ∨
  (s.2 54 p = 7 ∧ (p : Int) + 2 < s.1 46 ∧ (0 ≤ n_pl s (p + 1) ∧ n_pl s (p + 1) < s.1 46) ∧ D (n_pl s (p + 1)).toNat = D p ∧ K (n_pl s (p + 1)).toNat = K p) ∨
  (s.2 54 p = 8 ∧ (p : Int) + 3 < s.1 46 ∧ 1 ≤ D p ∧ (D (p + 3) = D p - 1 ∧ K (p + 3) = K p) ∧ (0 ≤ n_pl s (p + 1) ∧ n_pl s (p + 1) < s.1 46) ∧ D (n_pl s (p + 1)).toNat = D p - 1 ∧ K (n_pl s (p + 1)).toNat = K p) ∨
  (s.2 54 p = 9 ∧ (p : Int) + 1 < s.1 46 ∧ 2 ≤ D p ∧ D (p + 1) = D p - 1 ∧ K (p + 1) = K p) ∨
  (s.2 54 p = 10 ∧ (p : Int) + 1 < s.1 46 ∧ 1 ≤ D p ∧ D (p + 1) = D p - 1 ∧ K (p + 1) = K p) ∨
  (s.2 54 p = 11 ∧ (p : Int) + 2 < s.1 46 ∧ 1 ≤ D p ∧ s.2 54 (p + 1) % 256 < D p ∧ D (p + 2) = D p ∧ K (p + 2) = K p) ∨
  (s.2 54 p = 12 ∧ (p : Int) + 4 < s.1 46 ∧ s.2 54 (p + 3) % 256 ≤ D p ∧ (D (p + 4) = D p + 1 - s.2 54 (p + 3) % 256 ∧ K (p + 4) = K p) ∧ (0 ≤ n_pl s (p + 1) ∧ n_pl s (p + 1) < s.1 46) ∧ D (n_pl s (p + 1)).toNat = s.2 54 (p + 3) % 256 ∧ K (n_pl s (p + 1)).toNat = true) ∨
  (s.2 54 p = 13 ∧ (p : Int) + 1 < s.1 46 ∧ 1 ≤ D p ∧ K p = true) ∨
  s.2 54 p = 14
def n_IV (s : nS) (D : Nat → Int) (K : Nat → Bool) : Prop := (0 ≤ s.1 46 ∧ s.1 46 ≤ 600) ∧ (∀ p : Nat, (p : Int) < s.1 46 → 0 ≤ D p → n_IVp s D K p)
def n_CF (s : nS) (D : Nat → Int) (K : Nat → Bool) (i : Nat) : Prop := (0 ≤ s.2 57 i ∧ s.2 57 i < s.1 46) ∧ 0 ≤ s.2 56 i ∧ 0 ≤ D (s.2 57 i).toNat ∧ s.2 56 i + D (s.2 57 i).toNat = (if (i : Int) + 1 < s.1 52 then s.2 56 (i + 1) else s.1 50) + 1 ∧ (K (s.2 57 i).toNat = true → 1 ≤ i)
def n_RR (s : nS) (D : Nat → Int) (K : Nat → Bool) : Prop := (0 ≤ s.1 49 ∧ s.1 49 < s.1 46) ∧ 0 ≤ D (s.1 49).toNat ∧ s.1 51 = s.1 50 + D (s.1 49).toNat ∧ 0 ≤ s.1 50 ∧ (0 ≤ s.1 52 ∧ s.1 52 ≤ 24) ∧ (K (s.1 49).toNat = true → 1 ≤ s.1 52) ∧ (∀ i : Nat, (i : Int) < s.1 52 → n_CF s D K i)
def n_RS (s : nS) (D : Nat → Int) (K : Nat → Bool) : Prop := (0 ≤ s.1 51 ∧ s.1 51 ≤ 120) ∧ (∀ i, n_rng (s.2 55 i)) ∧ n_rng (s.1 48) ∧ (s.1 48 = 1 → n_RR s D K)
/-- what a step leaves -/
def n_SP (s : nS) (D : Nat → Int) (K : Nat → Bool) (s' : nS) : Prop := n_RS s' D K ∧ (∀ k, ¬ (48 ≤ k ∧ k ≤ 53) → s'.1 k = s.1 k) ∧ (∀ a i, ¬ (55 ≤ a ∧ a ≤ 57) → s'.2 a i = s.2 a i)
def n_fin (t : nS) (g : Int) : nS := (n_upd (n_upd t.1 49 g) 53 (t.1 53 + 1), t.2)
/-- a step that goes on to g, its calls the same -/
theorem n_SP_go {s t : nS} {D : Nat → Int} {K : Nat → Bool} {g : Int} (h : n_RS s D K) (h1 : s.1 48 = 1) (t1 : ∀ k, k ≠ 51 → t.1 k = s.1 k) (t2 : ∀ a i, a ≠ 55 → t.2 a i = s.2 a i) (t3 : ∀ i, n_rng (t.2 55 i)) (g1 : 0 ≤ g ∧ g < s.1 46) (g2 : 0 ≤ D g.toNat) (g3 : t.1 51 = s.1 50 + D g.toNat) (g4 : t.1 51 ≤ 120) (g5 : K g.toNat = K (s.1 49).toNat) : n_SP s D K (n_fin t g) := by
  obtain ⟨a1, a2, a3, a4⟩ := h
  obtain ⟨b1, b2, b3, b4, b5, b6, b7⟩ := a4 h1
  have e49 : (n_fin t g).1 49 = g := rfl
  have ek : ∀ k, k ≠ 49 ∧ k ≠ 53 → (n_fin t g).1 k = t.1 k := fun k hk => by
    show n_upd (n_upd t.1 49 g) 53 _ k = _
    rw [n_u_ne hk.2, n_u_ne hk.1]
  have e51 := ek 51 (by decide)
  have e46 := (ek 46 (by decide)).trans (t1 46 (by decide))
  have e48 := (ek 48 (by decide)).trans (t1 48 (by decide))
  have e50 := (ek 50 (by decide)).trans (t1 50 (by decide))
  have e52 := (ek 52 (by decide)).trans (t1 52 (by decide))
  have eA : ∀ a i, (n_fin t g).2 a i = t.2 a i := fun _ _ => rfl
  refine ⟨⟨by rw [e51]; omega, fun i => t3 i, by rw [e48]; exact a3, fun _ => ?_⟩, fun k hk => ?_, fun a i ha => t2 a i (by omega)⟩
  · refine ⟨by rw [e49, e46]; exact g1, by rw [e49]; exact g2, by rw [e51, e50, e49]; exact g3, by rw [e50]; exact b4, by rw [e52]; exact b5, fun hk => ?_, fun i hi => ?_⟩
    · rw [e49, g5] at hk
      rw [e52]
      exact b6 hk
    · rw [e52] at hi
      have c := b7 i hi
      unfold n_CF at c ⊢
      rw [eA, eA, eA, e46, e50, e52, t2 57 i (by decide), t2 56 i (by decide), t2 56 (i + 1) (by decide)]
      exact c
  · rw [ek k (by omega)]
    exact t1 k (by omega)
section N20
variable {Z : Nat → List Int32} {d : Nat} {s : nS}
/-- the same numbers -/
theorem n_same {mi pc : Nat} {L : nL} {st : List nV} {x y : Int} {Post : nA → nS → Prop} (h : Int32.ofInt x = Int32.ofInt y) (hP : NP Z d mi pc L (xI y :: st) s Post) : NP Z d mi pc L (xI x :: st) s Post := by
  intro F T q hF
  have := hP F T q hF
  unfold ngS at this ⊢
  rw [List.map_cons] at this ⊢
  have e : ng (xI x) = ng (xI y) := by show vI (Int32.ofInt x) = vI (Int32.ofInt y); rw [h]
  rw [e]
  exact this
theorem ng162 {op : Int} (hd : 6 ≤ d) (ho : n_rng op) (ht : 2 ≤ s.1 51 ∧ s.1 51 ≤ 120) (hs : ∀ i, n_rng (s.2 55 i)) : NG Z d 162 [xR 25, xI op] s (fun r s' => r = none ∧ ∃ v, n_rng v ∧ s' = (n_upd s.1 51 (s.1 51 - 1), n_updA s.2 55 (s.1 51 - 2).toNat v)) := by
  have h100 : ∀ (v x y : Int), NP Z d 162 100 [some (xR 25), some (xI op), some (xI y), some (xI x)] [xI v, xI (s.1 51 - 1 - 1), xR 55] (n_upd s.1 51 (s.1 51 - 1), s.2) (fun r s' => r = none ∧ ∃ v, n_rng v ∧ s' = (n_upd s.1 51 (s.1 51 - 1), n_updA s.2 55 (s.1 51 - 2).toNat v)) := fun v x y => by
    refine n_same (y := (Int32.ofInt v).toInt) (n_back _).symm ?_
    refine n_at nb162_100 hd rfl ⟨⟨by omega, by omega⟩, rfl, rfl, _, n_rng_toInt (Int32.ofInt v), ?_⟩
    rw [show s.1 51 - 1 - 1 = s.1 51 - 2 from by omega]
  have h95 : ∀ (x y : Int), NP Z d 162 95 [some (xR 25), some (xI op), some (xI y), some (xI x)] [xI (s.1 51 - 1 - 1), xR 55] (n_upd s.1 51 (s.1 51 - 1), s.2) (fun r s' => r = none ∧ ∃ v, n_rng v ∧ s' = (n_upd s.1 51 (s.1 51 - 1), n_updA s.2 55 (s.1 51 - 2).toNat v)) := fun x y => n_at nb162_95 hd rfl (h100 1 x y)
  have h99 : ∀ (x y : Int), NP Z d 162 99 [some (xR 25), some (xI op), some (xI y), some (xI x)] [xI (s.1 51 - 1 - 1), xR 55] (n_upd s.1 51 (s.1 51 - 1), s.2) (fun r s' => r = none ∧ ∃ v, n_rng v ∧ s' = (n_upd s.1 51 (s.1 51 - 1), n_updA s.2 55 (s.1 51 - 2).toNat v)) := fun x y => n_at nb162_99 hd rfl (h100 0 x y)
  refine n_G_of (L := [some (xR 25), some (xI op), none, none]) (by rw [nl162]; exact Nat.le_of_ble_eq_true rfl) (by rw [nl162]; rfl) ?_
  refine n_at nb162_0 hd rfl ⟨⟨by omega, by omega⟩, ⟨by omega, by omega⟩, ho, ⟨by decide, by decide⟩, fun _ => ?_, fun _ => h100 _ _ _⟩
  refine n_at nb162_55 hd rfl ⟨ho, ⟨by decide, by decide⟩, fun _ => ?_, fun _ => h100 _ _ _⟩
  refine n_at nb162_66 hd rfl ⟨ho, ⟨by decide, by decide⟩, fun _ => ?_, fun _ => h100 _ _ _⟩
  refine n_at nb162_77 hd rfl ⟨ho, ⟨by decide, by decide⟩, fun _ => ?_, fun _ => ⟨hs _, hs _, fun _ => h99 _ _, fun _ => h95 _ _⟩⟩
  exact n_at nb162_90 hd rfl ⟨hs _, hs _, fun _ => h99 _ _, fun _ => h95 _ _⟩
end N20
