/-! ONE STEP OF THE REFERENCE'S MACHINE -/
def n_L4 (op arg go : Int) : nL := [some (xR 25), some (xI op), some (xI arg), some (xI go)]
section N21
variable {Z : Nat → List Int32} {d : Nat} {s : nS} {D : Nat → Int} {K : Nat → Bool} {op arg go : Int}
theorem n_st486 {t : nS} (hd : 6 ≤ d) (h : n_SP s D K (n_fin t go)) : NP Z (d + 1) 159 486 (n_L4 op arg go) [] t (fun r s' => r = none ∧ n_SP s D K s') := n_at nb159_486 (by omega) rfl ⟨rfl, rfl, h⟩
theorem n_rng_u {A : Nat → Nat → Int} {i : Nat} {v : Int} (h : ∀ j, n_rng (A 55 j)) (hv : n_rng v) : ∀ j, n_rng (n_updA A 55 i v 55 j) := fun j => by
  rw [n_ua_eq]
  split
  · exact hv
  · exact h j
theorem n_P1 (h : 0 ≤ s.1 49) (k : Nat) : (s.1 49 + k).toNat = (s.1 49).toNat + k := by omega
theorem n_st168 (hd : 6 ≤ d) (hI : s.1 46 ≤ 600) (hR : n_RS s D K) (h1 : s.1 48 = 1) (ht : s.1 51 < 120) (f1 : s.1 49 + 3 < s.1 46) (f2 : D ((s.1 49).toNat + 3) = D (s.1 49).toNat + 1) (f3 : K ((s.1 49).toNat + 3) = K (s.1 49).toNat) (hg : go = s.1 49 + 3) : NP Z (d + 1) 159 168 (n_L4 op arg go) [] s (fun r s' => r = none ∧ n_SP s D K s') := by
  obtain ⟨a1, a2, a3, a4⟩ := id hR
  obtain ⟨b1, b2, b3, b4, b5, b6, b7⟩ := a4 h1
  have e := n_P1 b1.1 3
  refine n_at nb159_168 (by omega) rfl ?_
  refine n_iv (vs := [xR 25, xI (s.1 49 + 1)]) (r := [xR 25]) nn160 (by simp) rfl nc160 (ng160 hd ⟨by omega, by omega⟩) (fun r s' hr => ?_)
  rw [hr.1, hr.2]
  refine n_iv (vs := [xR 25, xI (n_i2s (n_pl s (s.1 49 + 1)))]) (r := []) nn161 (by simp) rfl nc161 (ng161 hd ⟨by omega, by omega⟩) (fun r s' hr => ?_)
  rw [hr.1, hr.2]
  refine n_st486 hd (n_SP_go hR h1 (fun k hk => n_u_ne hk) (fun a i ha => n_ua_ne ha) (n_rng_u a2 (n_rng_toInt _)) ⟨by omega, by omega⟩ ?_ ?_ ?_ ?_)
  · rw [hg]; show 0 ≤ D (s.1 49 + (3 : Nat)).toNat; rw [e, f2]; omega
  · rw [hg]; show s.1 51 + 1 = s.1 50 + D (s.1 49 + (3 : Nat)).toNat; rw [e, f2]; omega
  · show s.1 51 + 1 ≤ 120; omega
  · rw [hg]; show K (s.1 49 + (3 : Nat)).toNat = _; rw [e, f3]
theorem n_st186 (hd : 6 ≤ d) (hI : s.1 46 ≤ 600) (hR : n_RS s D K) (h1 : s.1 48 = 1) (ht : s.1 51 < 120) (f1 : s.1 49 + 2 < s.1 46) (f0 : 0 ≤ arg ∧ arg < D (s.1 49).toNat) (f2 : D ((s.1 49).toNat + 2) = D (s.1 49).toNat + 1) (f3 : K ((s.1 49).toNat + 2) = K (s.1 49).toNat) (hg : go = s.1 49 + 2) : NP Z (d + 1) 159 186 (n_L4 op arg go) [] s (fun r s' => r = none ∧ n_SP s D K s') := by
  obtain ⟨a1, a2, a3, a4⟩ := id hR
  obtain ⟨b1, b2, b3, b4, b5, b6, b7⟩ := a4 h1
  have e := n_P1 b1.1 2
  refine n_at nb159_186 (by omega) rfl ⟨⟨by omega, by omega⟩, ?_⟩
  refine n_iv (vs := [xR 25, xI (s.2 55 (s.1 50 + arg).toNat)]) (r := []) nn161 (by simp) rfl nc161 (ng161 hd ⟨by omega, by omega⟩) (fun r s' hr => ?_)
  rw [hr.1, hr.2]
  refine n_st486 hd (n_SP_go hR h1 (fun k hk => n_u_ne hk) (fun a i ha => n_ua_ne ha) (n_rng_u a2 (a2 _)) ⟨by omega, by omega⟩ ?_ ?_ ?_ ?_)
  · rw [hg]; show 0 ≤ D (s.1 49 + (2 : Nat)).toNat; rw [e, f2]; omega
  · rw [hg]; show s.1 51 + 1 = s.1 50 + D (s.1 49 + (2 : Nat)).toNat; rw [e, f2]; omega
  · show s.1 51 + 1 ≤ 120; omega
  · rw [hg]; show K (s.1 49 + (2 : Nat)).toNat = _; rw [e, f3]
theorem n_st481 (hd : 6 ≤ d) (hI : s.1 46 ≤ 600) (ho : n_rng op) (hR : n_RS s D K) (h1 : s.1 48 = 1) (f1 : s.1 49 + 1 < s.1 46) (f0 : 2 ≤ D (s.1 49).toNat) (f2 : D ((s.1 49).toNat + 1) = D (s.1 49).toNat - 1) (f3 : K ((s.1 49).toNat + 1) = K (s.1 49).toNat) (hg : go = s.1 49 + 1) : NP Z (d + 1) 159 481 (n_L4 op arg go) [] s (fun r s' => r = none ∧ n_SP s D K s') := by
  obtain ⟨a1, a2, a3, a4⟩ := id hR
  obtain ⟨b1, b2, b3, b4, b5, b6, b7⟩ := a4 h1
  have e := n_P1 b1.1 1
  refine n_at nb159_481 (by omega) rfl ?_
  refine n_iv (vs := [xR 25, xI op]) (r := []) nn162 (by simp) rfl nc162 (ng162 hd ho ⟨by omega, by omega⟩ a2) (fun r s' hr => ?_)
  obtain ⟨e1, v, hv, e2⟩ := hr
  rw [e1, e2]
  refine n_st486 hd (n_SP_go hR h1 (fun k hk => n_u_ne hk) (fun a i ha => n_ua_ne ha) (n_rng_u a2 hv) ⟨by omega, by omega⟩ ?_ ?_ ?_ ?_)
  · rw [hg]; show 0 ≤ D (s.1 49 + (1 : Nat)).toNat; rw [e, f2]; omega
  · rw [hg]; show s.1 51 - 1 = s.1 50 + D (s.1 49 + (1 : Nat)).toNat; rw [e, f2]; omega
  · show s.1 51 - 1 ≤ 120; omega
  · rw [hg]; show K (s.1 49 + (1 : Nat)).toNat = _; rw [e, f3]
theorem n_st204 (hd : 6 ≤ d) (hI : s.1 46 ≤ 600) (hR : n_RS s D K) (h1 : s.1 48 = 1) (f1 : s.1 49 + 2 < s.1 46) (f0 : 0 ≤ n_pl s (s.1 49 + 1) ∧ n_pl s (s.1 49 + 1) < s.1 46) (f2 : D (n_pl s (s.1 49 + 1)).toNat = D (s.1 49).toNat) (f3 : K (n_pl s (s.1 49 + 1)).toNat = K (s.1 49).toNat) : NP Z (d + 1) 159 204 (n_L4 op arg go) [] s (fun r s' => r = none ∧ n_SP s D K s') := by
  obtain ⟨a1, a2, a3, a4⟩ := id hR
  obtain ⟨b1, b2, b3, b4, b5, b6, b7⟩ := a4 h1
  refine n_at nb159_204 (by omega) rfl ?_
  refine n_iv (vs := [xR 25, xI (s.1 49 + 1)]) (r := []) nn160 (by simp) rfl nc160 (ng160 hd ⟨by omega, by omega⟩) (fun r s' hr => ?_)
  rw [hr.1, hr.2]
  exact n_st486 hd (n_SP_go hR h1 (fun k hk => rfl) (fun a i ha => rfl) a2 f0 (by rw [f2]; exact b2) (by rw [f2]; exact b3) a1.2 f3)
theorem n_st218 (hd : 6 ≤ d) (hI : s.1 46 ≤ 600) (hR : n_RS s D K) (h1 : s.1 48 = 1) (f1 : s.1 49 + 3 < s.1 46) (f4 : 1 ≤ D (s.1 49).toNat) (f0 : 0 ≤ n_pl s (s.1 49 + 1) ∧ n_pl s (s.1 49 + 1) < s.1 46) (f2 : D (n_pl s (s.1 49 + 1)).toNat = D (s.1 49).toNat - 1) (f3 : K (n_pl s (s.1 49 + 1)).toNat = K (s.1 49).toNat) (f5 : D ((s.1 49).toNat + 3) = D (s.1 49).toNat - 1) (f6 : K ((s.1 49).toNat + 3) = K (s.1 49).toNat) (hg : go = s.1 49 + 3) : NP Z (d + 1) 159 218 (n_L4 op arg go) [] s (fun r s' => r = none ∧ n_SP s D K s') := by
  obtain ⟨a1, a2, a3, a4⟩ := id hR
  obtain ⟨b1, b2, b3, b4, b5, b6, b7⟩ := a4 h1
  have e := n_P1 b1.1 3
  have h254 : ∀ g : Int, (0 ≤ g ∧ g < s.1 46) → D g.toNat = D (s.1 49).toNat - 1 → K g.toNat = K (s.1 49).toNat → NP Z (d + 1) 159 254 (n_L4 op arg go) [xI g] (n_upd s.1 51 (s.1 51 - 1), s.2) (fun r s' => r = none ∧ n_SP s D K s') := by
    intro g g1 g2 g3
    refine n_at nb159_254 (by omega) rfl ?_
    refine n_st486 hd (n_SP_go hR h1 (fun k hk => n_u_ne hk) (fun a i ha => rfl) a2 g1 (by rw [g2]; omega) ?_ ?_ g3)
    · show s.1 51 - 1 = _; rw [g2]; omega
    · show s.1 51 - 1 ≤ 120; omega
  refine n_at nb159_218 (by omega) rfl ⟨⟨by show 0 ≤ s.1 51 - 1; omega, by show s.1 51 - 1 < 120; omega⟩, a2 _, fun _ => ?_, fun _ => ?_⟩
  · refine n_at nb159_253 (by omega) rfl (h254 go ⟨by omega, by omega⟩ ?_ ?_)
    · rw [hg]; show D (s.1 49 + (3 : Nat)).toNat = _; rw [e, f5]
    · rw [hg]; show K (s.1 49 + (3 : Nat)).toNat = _; rw [e, f6]
  · refine n_iv (vs := [xR 25, xI (s.1 49 + 1)]) (r := []) nn160 (by simp) rfl nc160 (ng160 (s := (n_upd s.1 51 (s.1 51 - 1), s.2)) hd ⟨by omega, by omega⟩) (fun r s' hr => ?_)
    rw [hr.1, hr.2]
    exact h254 _ f0 f2 f3
theorem n_st258 (hd : 6 ≤ d) (hI : s.1 46 ≤ 600) (hR : n_RS s D K) (h1 : s.1 48 = 1) (f1 : s.1 49 + 1 < s.1 46) (f0 : 2 ≤ D (s.1 49).toNat) (f2 : D ((s.1 49).toNat + 1) = D (s.1 49).toNat - 1) (f3 : K ((s.1 49).toNat + 1) = K (s.1 49).toNat) (hg : go = s.1 49 + 1) : NP Z (d + 1) 159 258 (n_L4 op arg go) [] s (fun r s' => r = none ∧ n_SP s D K s') := by
  obtain ⟨a1, a2, a3, a4⟩ := id hR
  obtain ⟨b1, b2, b3, b4, b5, b6, b7⟩ := a4 h1
  have e := n_P1 b1.1 1
  refine n_at nb159_258 (by omega) rfl ⟨⟨by omega, by omega⟩, ⟨by omega, by omega⟩, ?_⟩
  refine n_st486 hd (n_SP_go (t := (n_upd s.1 51 (s.1 51 - 1), n_updA s.2 55 (s.1 51 - 2).toNat (s.2 55 (s.1 51 - 1).toNat))) hR h1 (fun k hk => n_u_ne hk) (fun a i ha => n_ua_ne ha) (n_rng_u a2 (a2 _)) ⟨by omega, by omega⟩ ?_ ?_ ?_ ?_)
  · rw [hg]; show 0 ≤ D (s.1 49 + (1 : Nat)).toNat; rw [e, f2]; omega
  · rw [hg]; show s.1 51 - 1 = s.1 50 + D (s.1 49 + (1 : Nat)).toNat; rw [e, f2]; omega
  · show s.1 51 - 1 ≤ 120; omega
  · rw [hg]; show K (s.1 49 + (1 : Nat)).toNat = _; rw [e, f3]
theorem n_st293 (hd : 6 ≤ d) (hI : s.1 46 ≤ 600) (hR : n_RS s D K) (h1 : s.1 48 = 1) (f1 : s.1 49 + 1 < s.1 46) (f0 : 1 ≤ D (s.1 49).toNat) (f2 : D ((s.1 49).toNat + 1) = D (s.1 49).toNat - 1) (f3 : K ((s.1 49).toNat + 1) = K (s.1 49).toNat) (hg : go = s.1 49 + 1) : NP Z (d + 1) 159 293 (n_L4 op arg go) [] s (fun r s' => r = none ∧ n_SP s D K s') := by
  obtain ⟨a1, a2, a3, a4⟩ := id hR
  obtain ⟨b1, b2, b3, b4, b5, b6, b7⟩ := a4 h1
  have e := n_P1 b1.1 1
  refine n_at nb159_293 (by omega) rfl ?_
  refine n_st486 hd (n_SP_go (t := (n_upd s.1 51 (s.1 51 - 1), s.2)) hR h1 (fun k hk => n_u_ne hk) (fun a i ha => rfl) a2 ⟨by omega, by omega⟩ ?_ ?_ ?_ ?_)
  · rw [hg]; show 0 ≤ D (s.1 49 + (1 : Nat)).toNat; rw [e, f2]; omega
  · rw [hg]; show s.1 51 - 1 = s.1 50 + D (s.1 49 + (1 : Nat)).toNat; rw [e, f2]; omega
  · show s.1 51 - 1 ≤ 120; omega
  · rw [hg]; show K (s.1 49 + (1 : Nat)).toNat = _; rw [e, f3]
theorem n_st306 (hd : 6 ≤ d) (hI : s.1 46 ≤ 600) (hR : n_RS s D K) (h1 : s.1 48 = 1) (f1 : s.1 49 + 2 < s.1 46) (f4 : 1 ≤ D (s.1 49).toNat) (f0 : 0 ≤ arg ∧ arg < D (s.1 49).toNat) (f2 : D ((s.1 49).toNat + 2) = D (s.1 49).toNat) (f3 : K ((s.1 49).toNat + 2) = K (s.1 49).toNat) (hg : go = s.1 49 + 2) : NP Z (d + 1) 159 306 (n_L4 op arg go) [] s (fun r s' => r = none ∧ n_SP s D K s') := by
  obtain ⟨a1, a2, a3, a4⟩ := id hR
  obtain ⟨b1, b2, b3, b4, b5, b6, b7⟩ := a4 h1
  have e := n_P1 b1.1 2
  refine n_at nb159_306 (by omega) rfl ⟨⟨by omega, by omega⟩, ⟨by omega, by omega⟩, ?_⟩
  refine n_st486 hd (n_SP_go (t := (s.1, n_updA s.2 55 (s.1 50 + arg).toNat (s.2 55 (s.1 51 - 1).toNat))) hR h1 (fun k hk => rfl) (fun a i ha => n_ua_ne ha) (n_rng_u a2 (a2 _)) ⟨by omega, by omega⟩ ?_ ?_ a1.2 ?_)
  · rw [hg]; show 0 ≤ D (s.1 49 + (2 : Nat)).toNat; rw [e, f2]; omega
  · rw [hg]; show s.1 51 = s.1 50 + D (s.1 49 + (2 : Nat)).toNat; rw [e, f2]; omega
  · rw [hg]; show K (s.1 49 + (2 : Nat)).toNat = _; rw [e, f3]
end N21
