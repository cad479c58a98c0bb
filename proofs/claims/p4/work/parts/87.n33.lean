/-! meet: WHAT A UNIT CALLS STANDS IN THE ORDER -/
def n_OI (s : nS) : Prop := (0 ≤ s.1 43 ∧ s.1 43 ≤ 16) ∧ s.1 43 = n_cnt (fun u => decide (0 ≤ n_stands s u)) 16 ∧ (∀ i : Nat, (i : Int) < s.1 43 → (0 ≤ s.2 52 i ∧ s.2 52 i < s.1 2) ∧ ¬ s.2 27 (s.2 52 i).toNat = 2) ∧ (∀ i, n_rng (s.2 52 i))
/-- t: more units in the order than in s, nothing else -/
def n_OM (s t : nS) : Prop := (∀ j, j ≠ 43 → t.1 j = s.1 j) ∧ (∀ a i, a ≠ 52 → t.2 a i = s.2 a i) ∧ s.1 43 ≤ t.1 43 ∧ (∀ i : Nat, (i : Int) < s.1 43 → t.2 52 i = s.2 52 i) ∧ (∀ v, 0 ≤ n_stands s v → 0 ≤ n_stands t v)
/-- the fix k of u is met in t -/
def n_met (t : nS) (u k : Int) : Prop := 0 ≤ n_latest t 1 (t.2 34 (50 * u + k).toNat) ∧ t.2 31 (200 * u + t.2 33 (50 * u + k).toNat + 2).toNat % 256 = t.2 29 (n_latest t 1 (t.2 34 (50 * u + k).toNat)).toNat ∧ 0 ≤ n_stands t (n_latest t 1 (t.2 34 (50 * u + k).toNat))
theorem n_OI_ord {s : nS} {f : Int} (h : n_OI s) (hu : s.1 2 ≤ 16) (hf : 0 ≤ f ∧ f < s.1 2) (hf2 : ¬ s.2 27 f.toNat = 2) (hn : n_stands s f < 0) : s.1 43 < 16 ∧ n_OI (n_ord s f) ∧ n_OM s (n_ord s f) := by
  obtain ⟨h1, h2, h3, h4⟩ := h
  have hpf : decide (0 ≤ n_stands s (f.toNat : Nat)) = false := decide_eq_false (by rw [show ((f.toNat : Nat) : Int) = f from by omega]; omega)
  have hlt : s.1 43 < 16 := by
    rw [h2]
    exact n_cnt_lt (P := fun u => decide (0 ≤ n_stands s u)) hpf 16 (by omega)
  have e43 : (n_ord s f).1 43 = s.1 43 + 1 := rfl
  have e2 : (n_ord s f).1 2 = s.1 2 := rfl
  have e52 : ∀ i, (n_ord s f).2 52 i = if i = (s.1 43).toNat then f else s.2 52 i := fun i => by
    show n_updA s.2 52 _ f 52 i = _
    rw [n_ua_eq]
  refine ⟨hlt, ⟨⟨by omega, by omega⟩, ?_, fun i hi => ?_, fun i => ?_⟩, fun j hj => ?_, fun a i ha => ?_, by omega, fun i hi => ?_, fun v hv => ?_⟩
  · rw [e43, n_cnt_add (P := fun u => decide (0 ≤ n_stands s u)) (Q := fun u => decide (0 ≤ n_stands (n_ord s f) u)) (u := f.toNat) hpf ?_ (fun i hi => ?_) 16 (by omega), ← h2]
    · show decide (0 ≤ n_stands (n_ord s f) ((f.toNat : Nat) : Int)) = true
      rw [n_ord_st h1.1, if_pos (by omega)]
      exact decide_eq_true h1.1
    · show decide (0 ≤ n_stands (n_ord s f) (i : Int)) = decide (0 ≤ n_stands s (i : Int))
      rw [n_ord_st h1.1, if_neg (by omega)]
  · have e27 : ∀ j, (n_ord s f).2 27 j = s.2 27 j := fun j => rfl
    rw [e52, e2, e27]
    split
    · exact ⟨hf, hf2⟩
    · exact h3 i (by omega)
  · rw [e52]
    split
    · exact ⟨by omega, by omega⟩
    · exact h4 i
  · exact n_u_ne hj
  · exact n_ua_ne ha
  · rw [e52, if_neg (by omega)]
  · rw [n_ord_st h1.1]
    split
    · exact h1.1
    · exact hv
theorem n_OM_met {t t' : nS} {u k : Int} (h : n_OM t t') (hm : n_met t u k) : n_met t' u k := by
  obtain ⟨h1, h2, h3, h4, h5⟩ := h
  have el : ∀ w v, n_latest t' w v = n_latest t w v := fun w v => by
    unfold n_latest
    rw [h1 2 (by decide)]
    refine n_lat_cg _ (fun i _ => ?_)
    rw [h2 27 i (by decide), h2 28 i (by decide)]
  obtain ⟨m1, m2, m3⟩ := hm
  unfold n_met
  rw [el, h2 34 _ (by decide), h2 33 _ (by decide), h2 31 _ (by decide), h2 29 _ (by decide)]
  exact ⟨m1, m2, h5 _ m3⟩
theorem n_OM_tr {a b c : nS} (h : n_OM a b) (g : n_OM b c) : n_OM a c := by
  obtain ⟨h1, h2, h3, h4, h5⟩ := h
  obtain ⟨g1, g2, g3, g4, g5⟩ := g
  exact ⟨fun j hj => (g1 j hj).trans (h1 j hj), fun x i hx => (g2 x i hx).trans (h2 x i hx), by omega, fun i hi => (g4 i (by omega)).trans (h4 i hi), fun v hv => g5 v (h5 v hv)⟩
