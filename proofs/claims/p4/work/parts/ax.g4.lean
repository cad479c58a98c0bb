/-! THE CLASS AND THE REFERENCE IN ONE HEAP -/
def g_fr (s : cS) : Prop := 59 ≤ cn s ∧ ∀ a, 25 ≤ a → a < 59 → s.2.2.1 a = 40
theorem g_lk {a t : Nat} : ∀ {l : List (Nat × Nat)}, l.lookup a = some t → (a, t) ∈ l
  | [], h => by simp at h
  | (x, y) :: l, h => by
    rw [List.lookup_cons] at h
    split at h
    · rename_i hq
      cases h
      rw [beq_iff_eq.mp hq]
      exact List.mem_cons_self
    · exact List.mem_cons_of_mem _ (g_lk h)
theorem g_rf_mem {a k b : Nat} (h : g_rf a k = some b) : (a, k, b) ∈ c_rfs := by
  unfold g_rf at h
  obtain ⟨p, hp, e⟩ := Option.map_eq_some_iff.mp h
  have h1 := List.mem_of_find?_eq_some hp
  have h2 := List.find?_some hp
  simp only [Bool.and_eq_true, beq_iff_eq] at h2
  obtain ⟨x, y, z⟩ := p
  simp only at h2 e
  obtain ⟨e1, e2⟩ := h2
  subst e1 e2 e
  exact h1
theorem g_T {a t : Nat} (h : cT g_s0 a = t) (h1 : t ≠ 40) (h2 : t ≠ 99) : (a, t) ∈ c_tgs := by
  obtain ⟨-, h3⟩ := cT_lt h h2
  have h3 : (c_tgs.lookup a).getD 40 = t := h3
  cases hl : c_tgs.lookup a with
  | none => rw [hl] at h3; exact absurd h3.symm h1
  | some x =>
    rw [hl] at h3
    have h3 : x = t := h3
    rw [h3] at hl
    exact g_lk hl
theorem g_ln_lt (a : Nat) : g_ln a < 99999 := by
  unfold g_ln
  cases hl : c_lns.lookup a with
  | none => decide
  | some x =>
    have hm := g_lk hl
    have hr : ∀ p ∈ c_lns, p.2 < 99999 := by decide
    exact hr _ hm
theorem g_fr0 : g_fr g_s0 := by
  have h : ∀ a, a < 59 → 25 ≤ a → g_tg a = 40 := by decide
  exact ⟨Nat.le_refl _, fun a h1 h2 => h a h2 h1⟩
theorem g_tn {a t : Nat} (h : cT g_s0 a = t) (h1 : t ≠ 40) (h2 : t ≠ 99) (h3 : ∀ p ∈ c_tgs, p.2 ≠ t) : False := h3 _ (g_T h h1 h2) rfl
theorem g_ok0 : c_ok g_s0 := by
  refine ⟨fun a i => ?_, ⟨by decide, by decide, by decide, by decide⟩, fun a => ⟨fun h b hb => ?_, fun _ => g_ln_lt a, fun h => (g_tn h (by decide) (by decide) (by decide)).elim, fun h => (g_tn h (by decide) (by decide) (by decide)).elim, fun h => (g_tn h (by decide) (by decide) (by decide)).elim, fun h i b hb => ?_, fun h i b hb => ?_⟩, ⟨by decide, by decide, by decide, by decide, by decide, by decide, fun i hi => ?_⟩, ⟨fun b hb => ?_, fun b hb => ?_, fun b hb => ?_, fun b hb => ?_⟩⟩
  · show n_rng (if a = 0 ∧ i = 6 then -1 else 0)
    split <;> exact ⟨by decide, by decide⟩
  · have m1 := g_rf_mem (a := a) (k := 0) (b := b) hb
    have m2 := g_T h (by decide) (by decide)
    have hr : ∀ p ∈ c_rfs, p.2.1 = 0 → (p.1, 1) ∈ c_tgs → cT g_s0 p.2.2 = 20 := by decide
    refine ⟨hr _ m1 rfl m2, ?_⟩
    have e : g_s0.1 a 1 = 0 := by
      show (if a = 0 ∧ 1 = 6 then (-1 : Int) else 0) = 0
      rw [if_neg (by omega)]
    rw [e]
    omega
  · have m1 := g_rf_mem (a := a) (k := i) (b := b) hb
    have m2 := g_T h (by decide) (by decide)
    have hr : ∀ p ∈ c_rfs, (p.1, 30) ∉ c_tgs := by decide
    exact absurd m2 (hr _ m1)
  · have m1 := g_rf_mem (a := a) (k := i) (b := b) hb
    have m2 := g_T h (by decide) (by decide)
    have hr : ∀ p ∈ c_rfs, (p.1, 31) ∉ c_tgs := by decide
    exact absurd m2 (hr _ m1)
  · have hi : (i : Int) < 0 := hi
    omega
  · have hr : g_rf 3 2 = none := by decide
    have hb : g_rf 3 2 = some b := hb
    rw [hr] at hb
    cases hb
  · have hr : g_rf 3 3 = none := by decide
    have hb : g_rf 3 3 = some b := hb
    rw [hr] at hb
    cases hb
  · have hr : g_rf 7 10 = none := by decide
    have hb : g_rf 7 10 = some b := hb
    rw [hr] at hb
    cases hb
  · have hr : g_rf 7 11 = none := by decide
    have hb : g_rf 7 11 = some b := hb
    rw [hr] at hb
    cases hb
section G4
variable {X X' : Nat → mm_O} {Z : Nat → List Int32} {d m : Nat} {s s' : cS} {R R' : nS} {o : List Int64} {a : Nat} {w x : Int64}
theorem g_cl (hf : g_fr s) (h1 : 25 ≤ a) (h2 : a < 59) : c_cell X s a = X a := by
  unfold c_cell
  rw [hf.2 a h1 h2, if_neg (by decide), if_neg (by decide), if_neg (by decide)]
theorem g_lo (h : c_ok s) (ha : a < 25) : c_cell X s a = c_cell X' s a := by
  have ht : ∀ a, a < 25 → ∃ p ∈ c_tgs, p.1 = a ∧ (p.2 < 10 ∨ p.2 = 20 ∨ p.2 = 30 ∨ p.2 = 31) := by decide
  obtain ⟨p, hp, e1, e2⟩ := ht a ha
  have e3 := c_t h p hp
  rw [e1] at e3
  obtain ⟨-, e4⟩ := cT_lt e3 (by omega)
  unfold c_cell
  rw [e4]
  rcases e2 with e | e | e
  · simp only [if_pos e]
  · have n1 : ¬ p.2 < 10 := by omega
    simp only [if_neg n1, if_pos e]
  · have n1 : ¬ p.2 < 10 := by omega
    have n2 : ¬ p.2 = 20 := by omega
    simp only [if_neg n1, if_neg n2, if_pos e]
theorem g_hi (ha : 58 ≤ a) : c_cell (g_X R o) s a = c_cell (g_X R' o) s a := by
  have e : g_X R o a = g_X R' o a := by
    have n1 : ¬ a = 25 := by omega
    have n2 : ¬ a < 58 := by omega
    unfold g_X
    simp only [if_neg n1, if_neg n2]
  unfold c_cell
  rw [e]
theorem g_split (h : c_ok s) (hf : g_fr s) (R : nS) (o : List Int64) : ∃ F T : List mm_O, F.length = 25 ∧ ∀ R', c_H (g_X R' o) s = n_H F T (cq s) R' := by
  have h59 := hf.1
  unfold cn at h59
  refine ⟨(List.range 25).map (c_cell (g_X R o) s), (List.range (cn s - 58)).map (fun j => c_cell (g_X R o) s (58 + j)), by simp, fun R' => Prod.ext (List.ext_getElem? (fun i => ?_)) rfl⟩
  have hF : ((List.range 25).map (c_cell (g_X R o) s)).length = 25 := by simp
  by_cases h1 : i < 25
  · rw [c_get (by omega)]
    show _ = ((List.range 25).map (c_cell (g_X R o) s) ++ (_ :: _) ++ _)[i]?
    rw [List.append_assoc, List.getElem?_append_left (by rw [hF]; exact h1), List.getElem?_map, List.getElem?_range h1]
    exact congrArg some (g_lo h h1)
  by_cases h2 : i < 58
  · rw [c_get (by omega), g_cl hf (by omega) (by omega)]
    by_cases h3 : i = 25
    · rw [h3, n_get25 hF]
      rfl
    · rw [n_geta hF (by omega) h2]
      unfold g_X
      rw [if_neg h3, if_pos h2]
  · show _ = ((List.range 25).map (c_cell (g_X R o) s) ++ (_ :: _) ++ _)[i]?
    rw [List.getElem?_append_right (by simp; omega)]
    have e : ((List.range 25).map (c_cell (g_X R o) s) ++ (Sum.inl (10, (List.range 57).map (n_fv R'.1)) :: (List.range 32).map (fun j => n_cell R'.2 (26 + j)) : List mm_O)).length = 58 := by simp
    rw [e]
    by_cases h3 : i < cn s
    · rw [c_get (show i < s.2.2.2.2.1 from h3), List.getElem?_map, List.getElem?_range (by omega)]
      show some _ = some (c_cell (g_X R o) s (58 + (i - 58)))
      rw [show 58 + (i - 58) = i from by omega]
      exact congrArg some (g_hi (by omega))
    · have e1 : (c_H (g_X R' o) s).1.length = cn s := by
        show ((List.range s.2.2.2.2.1).map _).length = _
        simp [cn]
      rw [List.getElem?_eq_none (by rw [e1]; omega), List.getElem?_eq_none (by simp; omega)]
/-- a call on the reference -/
theorem g_NG {vs : List nV} {Post : nA → nS → Prop} (h : c_ok s) (hf : g_fr s) (hG : NG Z d m vs R Post) : mm_G Z d m (vs.map ng) (c_H (g_X R o) s) (fun r hh => ∃ r' R', r = ngA r' ∧ hh = c_H (g_X R' o) s ∧ Post r' R') := by
  obtain ⟨F, T, hF, he⟩ := g_split h hf R o
  rw [he R]
  refine mm_G_mono (hG F T (cq s) hF) (fun r hh hr => ?_)
  obtain ⟨r', R', e1, e2, hp⟩ := hr
  exact ⟨r', R', e1, by rw [e2, he R'], hp⟩
theorem g_st (hf : g_fr s) : ((c_H (g_X R [x]) s).1.set 58 (.inr (.inr (.inl [w]))), (c_H (g_X R [x]) s).2) = c_H (g_X R [w]) s := by
  unfold c_H
  refine Prod.ext ?_ rfl
  refine List.ext_getElem (by simp) (fun i h1 h2 => ?_)
  rw [List.getElem_set]
  simp only [List.getElem_map, List.getElem_range]
  split
  · rename_i hi
    rw [← hi, g_cl hf (by omega) (by omega)]
    rfl
  · rename_i hi
    have e : g_X R [w] i = g_X R [x] i := by
      unfold g_X
      by_cases e1 : i = 25
      · rw [if_pos e1, if_pos e1]
      · rw [if_neg e1, if_neg e1]
        by_cases e2 : i < 58
        · rw [if_pos e2, if_pos e2]
        · have n3 : ¬ i = 58 := fun q => hi q.symm
          simp only [if_neg e2, if_neg n3]
    unfold c_cell
    rw [e]
theorem g_last (hf : g_fr s) : mm_last (c_H (g_X R [x]) s) 58 (Int32.ofInt 0) w = some (c_H (g_X R [w]) s) := by
  have h59 := hf.1
  unfold cn at h59
  have e : (c_H (g_X R [x]) s).1[58]? = some (.inr (.inr (.inl [x]))) := by
    rw [c_get (by omega), g_cl hf (by omega) (by omega)]
    rfl
  unfold mm_last mm_lng
  rw [e]
  have e2 : mm_ix (Int32.ofInt 0) 1 = some 0 := by decide
  have e3 : mm_ix (Int32.ofInt 0) ([x] : List Int64).length = some 0 := e2
  simp only [Option.bind_some, e3, Option.map_some]
  exact congrArg some (g_st hf)
theorem g_rc0 (h : c_ok s) {vs : List mm_V} : mm_rcvb (c_H X s) (vR 0 :: vs) 0 = true := by
  unfold mm_rcvb
  simp only
  rw [c_obj (c_t h (0, 0) (by decide)) (by decide)]
  rfl
theorem g_rc25 (hf : g_fr s) {vs : List mm_V} : mm_rcvb (c_H (g_X R o) s) (vR 25 :: vs) 10 = true := by
  have h59 := hf.1
  unfold cn at h59
  unfold mm_rcvb
  simp only
  rw [c_get (by omega), g_cl hf (by omega) (by omega)]
  rfl
theorem g_fr_E (hf : g_fr s) (h : c_E s s') : g_fr s' := by
  have h1 := hf.1
  have h2 := h.1
  exact ⟨by omega, fun a ha hb => by rw [(h.2.1 a (by omega)).1]; exact hf.2 a ha hb⟩
end G4
