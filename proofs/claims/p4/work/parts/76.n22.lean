/-! A STEP: calls, returns, ends; and which it is -/
section N22
variable {Z : Nat → List Int32} {d : Nat} {s : nS} {D : Nat → Int} {K : Nat → Bool} {op arg go : Int}
theorem n_SP_off {s' : nS} {v : Int} (hR : n_RS s D K) (hv : n_rng v ∧ ¬ v = 1) (e48 : s'.1 48 = v) (e1 : ∀ k, ¬ (k = 48 ∨ k = 49 ∨ k = 53) → s'.1 k = s.1 k) (e2 : ∀ a i, s'.2 a i = s.2 a i) : n_SP s D K s' := by
  obtain ⟨a1, a2, a3, a4⟩ := hR
  refine ⟨⟨by rw [e1 51 (by decide)]; exact a1, fun i => by rw [e2]; exact a2 i, by rw [e48]; exact hv.1, fun h => absurd (e48.symm.trans h) hv.2⟩, fun k hk => e1 k (by omega), fun a i _ => e2 a i⟩
theorem n_st76 {L : nL} (hL : L[0]? = some (some (xR 25))) (hd : 6 ≤ d) (hR : n_RS s D K) : NP Z (d + 1) 159 76 L [] s (fun r s' => r = none ∧ n_SP s D K s') := by
  obtain _ | ⟨x, L⟩ := L
  · cases hL
  · simp only [List.getElem?_cons_zero, Option.some.injEq] at hL
    subst hL
    refine n_at nb159_76 (by omega) rfl ⟨rfl, rfl, n_SP_off (v := 3) hR ⟨⟨by decide, by decide⟩, by decide⟩ rfl (fun k hk => ?_) (fun _ _ => rfl)⟩
    exact n_u_ne (by omega)
theorem n_st468 (hd : 6 ≤ d) (hR : n_RS s D K) : NP Z (d + 1) 159 468 (n_L4 op arg go) [] s (fun r s' => r = none ∧ n_SP s D K s') := by
  refine n_at nb159_468 (by omega) rfl ?_
  refine n_st486 (go := s.1 49) hd (n_SP_off (v := 2) hR ⟨⟨by decide, by decide⟩, by decide⟩ rfl (fun k hk => ?_) (fun _ _ => rfl))
  show n_upd (n_upd (n_upd s.1 48 2) 49 (s.1 49)) 53 _ k = _
  rw [n_u_ne (by omega), n_u_ne (by omega), n_u_ne (by omega)]
theorem n_st331 (hd : 6 ≤ d) (hI : s.1 46 ≤ 600) (hR : n_RS s D K) (h1 : s.1 48 = 1) (hc : ¬ s.1 52 = 24) (f1 : s.1 49 + 4 < s.1 46) (f4 : s.2 54 ((s.1 49).toNat + 3) % 256 ≤ D (s.1 49).toNat) (f0 : 0 ≤ n_pl s (s.1 49 + 1) ∧ n_pl s (s.1 49 + 1) < s.1 46) (f2 : D (n_pl s (s.1 49 + 1)).toNat = s.2 54 ((s.1 49).toNat + 3) % 256) (f3 : K (n_pl s (s.1 49 + 1)).toNat = true) (f5 : D ((s.1 49).toNat + 4) = D (s.1 49).toNat + 1 - s.2 54 ((s.1 49).toNat + 3) % 256) (f6 : K ((s.1 49).toNat + 4) = K (s.1 49).toNat) (hg : go = s.1 49 + 4) : NP Z (d + 1) 159 331 (n_L4 op arg go) [] s (fun r s' => r = none ∧ n_SP s D K s') := by
  obtain ⟨a1, a2, a3, a4⟩ := id hR
  obtain ⟨b1, b2, b3, b4, b5, b6, b7⟩ := a4 h1
  have e3 : (s.1 49 + 3).toNat = (s.1 49).toNat + 3 := by omega
  have e4 : go.toNat = (s.1 49).toNat + 4 := by omega
  rw [← e3] at f4 f2 f5
  have hy : 0 ≤ s.2 54 (s.1 49 + 3).toNat % 256 := by omega
  generalize hyy : s.2 54 (s.1 49 + 3).toNat % 256 = y at f4 f2 f5 hy
  refine n_at nb159_331 (by omega) rfl ⟨⟨b5.1, by omega⟩, ⟨b5.1, by show s.1 52 < 24; omega⟩, ⟨by show 0 ≤ s.1 49 + 3; omega, by show s.1 49 + 3 < 600; omega⟩, ?_⟩
  show wq _ _ _ _ _ [xI (s.1 49 + 1), xR 25] (n_upd (n_upd s.1 52 (s.1 52 + 1)) 50 (s.1 51 - s.2 54 (s.1 49 + 3).toNat % 256), n_updA (n_updA s.2 56 (s.1 52).toNat (s.1 50)) 57 (s.1 52).toNat go)
  rw [hyy]
  refine n_iv (vs := [xR 25, xI (s.1 49 + 1)]) (r := []) nn160 (by simp) rfl nc160 (ng160 hd ⟨by omega, by omega⟩) (fun r s' hr => ?_)
  rw [hr.1, hr.2]
  have epl : n_pl (n_upd (n_upd s.1 52 (s.1 52 + 1)) 50 (s.1 51 - y), n_updA (n_updA s.2 56 (s.1 52).toNat (s.1 50)) 57 (s.1 52).toNat go) (s.1 49 + 1) = n_pl s (s.1 49 + 1) := rfl
  rw [epl]
  refine n_st486 (go := n_pl s (s.1 49 + 1)) hd ?_
  generalize n_pl s (s.1 49 + 1) = g at f0 f2 f3
  have k46 : (n_fin (n_upd (n_upd s.1 52 (s.1 52 + 1)) 50 (s.1 51 - y), n_updA (n_updA s.2 56 (s.1 52).toNat (s.1 50)) 57 (s.1 52).toNat go) g).1 46 = s.1 46 := rfl
  have k50 : (n_fin (n_upd (n_upd s.1 52 (s.1 52 + 1)) 50 (s.1 51 - y), n_updA (n_updA s.2 56 (s.1 52).toNat (s.1 50)) 57 (s.1 52).toNat go) g).1 50 = s.1 51 - y := rfl
  have k52 : (n_fin (n_upd (n_upd s.1 52 (s.1 52 + 1)) 50 (s.1 51 - y), n_updA (n_updA s.2 56 (s.1 52).toNat (s.1 50)) 57 (s.1 52).toNat go) g).1 52 = s.1 52 + 1 := rfl
  have k56 : ∀ i, (n_fin (n_upd (n_upd s.1 52 (s.1 52 + 1)) 50 (s.1 51 - y), n_updA (n_updA s.2 56 (s.1 52).toNat (s.1 50)) 57 (s.1 52).toNat go) g).2 56 i = if i = (s.1 52).toNat then s.1 50 else s.2 56 i := fun i => by
    show n_updA (n_updA s.2 56 (s.1 52).toNat (s.1 50)) 57 (s.1 52).toNat go 56 i = _
    rw [n_ua_ne (by decide), n_ua_eq]
  have k57 : ∀ i, (n_fin (n_upd (n_upd s.1 52 (s.1 52 + 1)) 50 (s.1 51 - y), n_updA (n_updA s.2 56 (s.1 52).toNat (s.1 50)) 57 (s.1 52).toNat go) g).2 57 i = if i = (s.1 52).toNat then go else s.2 57 i := fun i => by
    show n_updA (n_updA s.2 56 (s.1 52).toNat (s.1 50)) 57 (s.1 52).toNat go 57 i = _
    rw [n_ua_eq, n_ua_ne (by decide)]
  refine ⟨⟨a1, fun i => ?_, a3, fun _ => ⟨f0, ?_, ?_, ?_, ?_, fun _ => ?_, fun i hi => ?_⟩⟩, fun k hk => ?_, fun a i ha => ?_⟩
  · show n_rng (n_updA (n_updA s.2 56 (s.1 52).toNat (s.1 50)) 57 (s.1 52).toNat go 55 i)
    rw [n_ua_ne (by decide), n_ua_ne (by decide)]
    exact a2 i
  · show 0 ≤ D g.toNat; omega
  · show s.1 51 = s.1 51 - y + D g.toNat; omega
  · show 0 ≤ s.1 51 - y; omega
  · show 0 ≤ s.1 52 + 1 ∧ s.1 52 + 1 ≤ 24; omega
  · show 1 ≤ s.1 52 + 1; omega
  · rw [k52] at hi
    unfold n_CF
    rw [k46, k50, k52, k56, k56, k57]
    by_cases hq : i = (s.1 52).toNat
    · subst hq
      rw [if_pos rfl, if_pos rfl, if_neg (by omega), e4, f5, f6]
      exact ⟨⟨by omega, by omega⟩, by omega, by omega, by omega, fun h => by have := b6 h; omega⟩
    · have c := b7 i (by omega)
      unfold n_CF at c
      obtain ⟨c1, c2, c3, c4, c5⟩ := c
      rw [if_neg hq, if_neg hq, if_pos (by omega)]
      refine ⟨c1, c2, c3, ?_, c5⟩
      by_cases hz : i + 1 = (s.1 52).toNat
      · rw [if_pos hz]
        rw [if_neg (by omega)] at c4
        exact c4
      · rw [if_neg hz]
        rw [if_pos (by omega)] at c4
        exact c4
  · show n_upd (n_upd (n_upd (n_upd s.1 52 _) 50 _) 49 g) 53 _ k = _
    rw [n_u_ne (by omega), n_u_ne (by omega), n_u_ne (by omega), n_u_ne (by omega)]
  · show n_updA (n_updA s.2 56 (s.1 52).toNat (s.1 50)) 57 (s.1 52).toNat go a i = _
    rw [n_ua_ne (by omega), n_ua_ne (by omega)]
theorem n_st402 (hd : 6 ≤ d) (hI : s.1 46 ≤ 600) (hR : n_RS s D K) (h1 : s.1 48 = 1) (f4 : 1 ≤ D (s.1 49).toNat) (f3 : K (s.1 49).toNat = true) : NP Z (d + 1) 159 402 (n_L4 op arg go) [] s (fun r s' => r = none ∧ n_SP s D K s') := by
  obtain ⟨a1, a2, a3, a4⟩ := id hR
  obtain ⟨b1, b2, b3, b4, b5, b6, b7⟩ := a4 h1
  have hc := b6 f3
  have c := b7 (s.1 52 - 1).toNat (by omega)
  unfold n_CF at c
  obtain ⟨c1, c2, c3, c4, c5⟩ := c
  rw [if_neg (by omega)] at c4
  refine n_at nb159_402 (by omega) rfl ⟨⟨by omega, by omega⟩, ⟨by omega, by omega⟩, ⟨by show 0 ≤ s.1 52 - 1; omega, by show s.1 52 - 1 < 24; omega⟩, ⟨by show 0 ≤ s.1 52 - 1; omega, by show s.1 52 - 1 < 24; omega⟩, ?_⟩
  refine n_st486 (go := s.2 57 (s.1 52 - 1).toNat) (t := (n_upd (n_upd (n_upd s.1 51 (s.1 50 + 1)) 52 (s.1 52 - 1)) 50 (s.2 56 (s.1 52 - 1).toNat), n_updA s.2 55 (s.1 50).toNat (s.2 55 (s.1 51 - 1).toNat))) hd ?_
  refine ⟨⟨?_, ?_, a3, fun _ => ⟨c1, c3, ?_, c2, ?_, fun h => ?_, fun i hi => ?_⟩⟩, fun k hk => ?_, fun a i ha => ?_⟩
  · show 0 ≤ s.1 50 + 1 ∧ s.1 50 + 1 ≤ 120; omega
  · exact n_rng_u a2 (a2 _)
  · show s.1 50 + 1 = s.2 56 (s.1 52 - 1).toNat + D (s.2 57 (s.1 52 - 1).toNat).toNat; omega
  · show 0 ≤ s.1 52 - 1 ∧ s.1 52 - 1 ≤ 24; omega
  · show 1 ≤ s.1 52 - 1
    have := c5 h
    omega
  · have hi : (i : Int) < s.1 52 - 1 := hi
    have c' := b7 i (by omega)
    unfold n_CF at c'
    obtain ⟨d1, d2, d3, d4, d5⟩ := c'
    rw [if_pos (by omega)] at d4
    refine ⟨d1, d2, d3, ?_, d5⟩
    show s.2 56 i + D (s.2 57 i).toNat = (if (i : Int) + 1 < s.1 52 - 1 then s.2 56 (i + 1) else s.2 56 (s.1 52 - 1).toNat) + 1
    by_cases hz : (i : Int) + 1 < s.1 52 - 1
    · rw [if_pos hz]
      exact d4
    · rw [if_neg hz, show (s.1 52 - 1).toNat = i + 1 from by omega]
      exact d4
  · show n_upd (n_upd (n_upd (n_upd (n_upd s.1 51 _) 52 _) 50 _) 49 _) 53 _ k = _
    rw [n_u_ne (by omega), n_u_ne (by omega), n_u_ne (by omega), n_u_ne (by omega), n_u_ne (by omega)]
  · show n_updA s.2 55 _ _ a i = _
    rw [n_ua_ne (by omega)]
end N22
