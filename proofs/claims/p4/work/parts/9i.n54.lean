section N54
variable {Z : Nat → List Int32} {d : Nat} {s t : nS} {H O : Nat → Int} {f : Int}
theorem n_rp_le {ch : Int → Int} {mac : Bool} {len : Int} (h0 : ∀ k, len ≤ k → ch k = 0) : ∀ (n : Nat) (p o : Int) (ap wh : Bool), 0 ≤ p → p ≤ len → -2 ≤ n_rp ch mac n p o ap wh ∧ n_rp ch mac n p o ap wh ≤ len
  | 0, p, o, ap, wh, _, _ => by
    show -2 ≤ (-2 : Int) ∧ (-2 : Int) ≤ len
    omega
  | n + 1, p, o, ap, wh, hp, hl => by
    have hlt : ¬ ch p = 0 → p < len := by
      intro h
      apply Classical.byContradiction
      intro hc
      exact h (h0 p (by omega))
    rw [n_rp]
    split
    · omega
    · split
      · rename_i h1
        have := hlt (by omega)
        exact n_rp_le h0 n _ _ _ _ (by omega) (by omega)
      · split
        · omega
        · split
          · rename_i h3
            have := hlt (by omega)
            exact n_rp_le h0 n _ _ _ _ (by omega) (by omega)
          · split
            · omega
            · split
              · rename_i h5
                have := hlt (by omega)
                exact n_rp_le h0 n _ _ _ _ (by omega) (by omega)
              · rename_i h4 h5
                have hb : n_one (ch p) = true := by
                  apply n_one_beg
                  apply Classical.byContradiction
                  intro hcn
                  exact h4 (Or.inr (Or.inl ⟨h5, fun k => hcn k.1⟩))
                have hz : ¬ ch p = 0 := by
                  intro hq
                  have : c_beg (ch p) = true := by
                    apply Classical.byContradiction
                    intro hcn
                    exact h4 (Or.inr (Or.inl ⟨h5, fun k => hcn k.1⟩))
                  rw [hq] at this
                  exact absurd this (by decide)
                have := n_atomEnd_b h0 hz
                exact n_rp_le h0 n _ _ _ _ (by omega) (by omega)
theorem n_read_b (h : n_TT s) : -2 ≤ n_read s (-1) ∧ n_read s (-1) ≤ 120 := by
  have := n_rp_le (ch := n_at1 s (-1)) (mac := decide ((0 : Int) ≤ -1)) (len := s.1 1) (fun k hk => by
    unfold n_at1
    rw [if_pos (show (-1 : Int) < 0 by decide), if_neg (by omega)]) 200 0 0 true false (Int.le_refl _) h.1.1
  have h1 := h.1.2
  unfold n_read
  omega
/-- what begins the form -/
theorem n_c105 (hd : 6 ≤ d) (hM : n_MI s) (h1 : n_C1 s t H O f) (h28 : t.1 28 = 0) (h32 : t.1 32 = 0) {u v : Int} {q4 q5 : Bool} (hqq : ¬ (q4 = true ∧ q5 = true)) : NP Z (d + 7) 110 105 (n_Lk f u (some (xI v)) (some (xI (n_T q4))) none none) [xI (n_T q5)] t (n_CO s) := by
  have h120 := fun hq => n_c120 (Z := Z) (u := u) (a := some (xI v)) (e6 := some (xI 0)) hd hM h1 hqq hq h28 h32
  refine n_at nb110_105 (by omega) rfl ⟨n_rngT _, fun z => h120 (Or.inl (n_T1 z)), fun z => ⟨n_rngT _, fun z2 => ?_, fun z2 => h120 (Or.inr (n_T1 z2))⟩⟩
  refine n_c191 hd hM h1 hqq (Or.inl h28) (fun _ => ⟨fun h => ?_, ⟨by decide, by decide⟩, h32, fun k hk => by omega, fun _ _ => rfl⟩)
  rcases h with h | h
  · rw [n_T0 z] at h; cases h
  · rw [n_T0 z2] at h; cases h
theorem n_c49 (hd : 6 ≤ d) (hM : n_MI s) {x : Int} (hc : n_ce s t) (h3 : t.1 3 = n_read s (-1)) (hx : (x = 1) ∨ (x = 0 ∧ n_C1 s t H O f ∧ t.1 28 = 0 ∧ t.1 32 = 0)) : NP Z (d + 7) 110 49 [some (xR 25), some (xI f), none, none, none, none, none] [xI x, xR 25] t (n_CO s) := by
  refine n_at nb110_49 (by omega) rfl ⟨⟨by show _ ≤ x; omega, by show x < _; omega⟩, fun z => ?_, fun z => ?_⟩
  · exact n_c339x (f := f) (u := 0) (by omega) hM (n_ce_tr hc (n_ce_u (by decide))) h3
  have z : x = 0 := z
  obtain ⟨h1, h28, h32⟩ : n_C1 s t H O f ∧ t.1 28 = 0 ∧ t.1 32 = 0 := by
    rcases hx with hx | hx
    · omega
    · exact hx.2
  obtain ⟨⟨-, h1a, -, hrd⟩, g2, g3, g4, g5⟩ := h1
  have h1 : n_C1 s (n_upd t.1 0 x, t.2) H O f := ⟨⟨n_ce_tr hc (n_ce_u (by decide)), h1a, h3, hrd⟩, g2, g3, g4, g5⟩
  obtain ⟨xs, x1, x2, x3, x4⟩ := n_chOf g2 g4
  obtain ⟨ff, fk, fv, -⟩ := n_form1 g2 g4
  refine n_iv (d := d + 6) (vs := [xR 25, xI f]) (r := []) nn120 (by simp) rfl nc120 (ng120 (d := d + 5) (s := (n_upd t.1 0 x, t.2)) (by omega) ff fk x1 (by omega) x3) (fun r s' hr => ?_)
  obtain ⟨⟨v, hv, hvr, hv0⟩, hs'⟩ := hr
  rw [hv, hs']
  have h85 : ∀ q4 : Bool, (q4 = true → v = n_word 109 97 99) → NP Z (d + 7) 110 85 [some (xR 25), some (xI f), some (xI 0), some (xI v), none, none, none] [xI (n_T q4)] (n_upd t.1 0 x, t.2) (n_CO s) := by
    intro q4 hq4
    refine n_at nb110_85 (by omega) rfl ?_
    refine n_is (d := d + 6) (vs := [xI 100, xI 101, xI 102]) (r := [xI v]) nn123 (by simp) (ng123 (by omega)) (fun r s' hr => ?_)
    rw [hr.1, hr.2]
    refine ⟨hvr, n_rng_word _ _ _, fun z1 => ?_, fun z1 => ?_⟩
    · refine n_at nb110_104 (by omega) rfl ?_
      exact n_c105 (u := 0) (q4 := q4) (q5 := false) hd hM h1 h28 h32 (by rintro ⟨-, h⟩; cases h)
    · refine n_c105 (u := 0) (q4 := q4) (q5 := true) hd hM h1 h28 h32 ?_
      rintro ⟨h, -⟩
      have e1 := hq4 h
      have e2 : v = n_word 100 101 102 := z1
      rw [e1] at e2
      exact absurd e2 (by decide)
  refine n_is (d := d + 6) (vs := [xI 109, xI 97, xI 99]) (r := [xI v]) nn123 (by simp) (ng123 (by omega)) (fun r s' hr => ?_)
  rw [hr.1, hr.2]
  refine ⟨hvr, n_rng_word _ _ _, fun z1 => ?_, fun z1 => ?_⟩
  · refine n_at nb110_84 (by omega) rfl (h85 false (fun h => by cases h))
  · exact h85 true (fun _ => z1)
/-- compile -/
theorem ng110 (hd : 6 ≤ d) (hM : n_MI s) : NG Z (d + 7) 110 [xR 25] s (n_CO s) := by
  refine n_G_of (L := [some (xR 25), none, none, none, none, none, none]) (by rw [nl110]; exact Nat.le_of_ble_eq_true rfl) (by rw [nl110]; rfl) ?_
  refine n_at nb110_0 (by omega) rfl ⟨Or.inl rfl, ?_⟩
  show wq _ _ _ _ _ [xI (-1), xI 0, xI (-1), xR 25] (n_upd (n_upd (n_upd (n_upd s.1 17 0) 18 0) 32 0) 28 0, s.2)
  generalize hS : (n_upd (n_upd (n_upd (n_upd s.1 17 0) 18 0) 32 0) 28 0, s.2) = S
  have sA : S.2 = s.2 := by rw [← hS]
  have s17 : S.1 17 = 0 := by rw [← hS]; rfl
  have s18 : S.1 18 = 0 := by rw [← hS]; rfl
  have s32 : S.1 32 = 0 := by rw [← hS]; rfl
  have s28 : S.1 28 = 0 := by rw [← hS]; rfl
  have s1 : S.1 1 = s.1 1 := by rw [← hS]; rfl
  have sce : n_ce s S := by
    refine ⟨fun k hk => ?_, fun a i _ => by rw [sA]⟩
    rw [← hS]
    show n_upd (n_upd (n_upd (n_upd s.1 17 0) 18 0) 32 0) 28 0 k = _
    rw [n_u_ne (by omega), n_u_ne (by omega), n_u_ne (by omega), n_u_ne (by omega)]
  obtain ⟨⟨a1, a2, a3, a4⟩, hU, hX⟩ := hM
  have hM : n_MI s := ⟨⟨a1, a2, a3, a4⟩, hU, hX⟩
  have hCX : n_CX S (fun _ => 0) (fun _ => 0) (-1) 0 (-1) [] := by
    refine ⟨⟨by rw [s1]; exact a1, ⟨by decide, by decide⟩, fun h => absurd h (by decide), fun i => by rw [sA]; exact a2 i, fun i => by rw [sA]; exact a4 i⟩, by decide, by rw [s17]; decide, by rw [s18]; decide, fun h => absurd h (by decide), fun i => by rw [sA]; exact (hU.2.1 i).2.2.2, rfl, by decide, fun y hy => by cases hy⟩
  have hFI : n_FI S (fun _ => 0) (fun _ => 0) := ⟨by rw [s17]; decide, by rw [s18]; decide, fun i hi => by rw [s17] at hi; omega, fun j hj => by rw [s18] at hj; omega⟩
  have hrd : n_read S (-1) = n_read s (-1) := by
    have ea : n_at1 S (-1) = n_at1 s (-1) := by
      funext k
      unfold n_at1
      rw [s1, sA]
    unfold n_read
    rw [ea]
  have hrb := n_read_b ⟨a1, a2, a3, a4⟩
  refine n_iv (d := d + 6) (vs := [xR 25, xI (-1), xI 0, xI (-1)]) (r := []) (P := fun r s1 => ∃ wh, r = some wh ∧ n_fr S s1 ∧ s1.1 24 = n_read s (-1) ∧ ((0 ≤ n_read s (-1)) ∨ (n_read s (-1) = -1 ∧ ∃ H O, n_FI s1 H O ∧ (0 ≤ wh ∧ wh < s1.1 17) ∧ H wh.toNat ≤ 8 ∧ s1.1 17 ≤ 95 ∧ s1.1 18 ≤ 95))) nn111 (by simp) rfl nc111 (ng111 (d := d + 4) (by omega) hCX hFI ?_) (fun r s' hr => ?_)
  · rw [hrd]
    refine ⟨fun hW s1 H O wh k1 k2 k3 k4 k5 k6 k7 => ⟨wh, rfl, k1.1, by rw [k7, hW], Or.inr ⟨hW, H, O, k1.2.1, ⟨k2, k3⟩, by omega, by omega, by omega⟩⟩, fun hW s1 wh k1 k2 => ⟨wh, rfl, k1, k2, Or.inl hW⟩⟩
  · obtain ⟨wh, hr1, k1, k2, k3⟩ := hr
    rw [hr1]
    have hce : n_ce s (n_upd s'.1 3 (s'.1 24), s'.2) := n_ce_tr (n_ce_tr sce (n_ce_fr k1)) (n_ce_u (by decide))
    have h49 : ∀ x : Int, (x = 1 ∨ (x = 0 ∧ n_read s (-1) = -1)) → NP Z (d + 7) 110 49 [some (xR 25), some (xI wh), none, none, none, none, none] [xI x, xR 25] (n_upd s'.1 3 (s'.1 24), s'.2) (n_CO s) := by
      intro x hx
      rcases hx with hx | ⟨hx, hW⟩
      · exact n_c49 (H := fun _ => 0) (O := fun _ => 0) hd hM hce k2 (Or.inl hx)
      · rcases k3 with k3 | ⟨-, H, O, p1, p2, p3, p4, p5⟩
        · omega
        · refine n_c49 (H := H) (O := O) hd hM hce k2 (Or.inr ⟨hx, ⟨⟨hce, ?_, k2, hW⟩, p1, ⟨p4, p5⟩, p2, p3⟩, ?_, ?_⟩)
          · show s'.1 1 = _
            rw [k1.1 1 (by decide)]
            exact s1
          · show s'.1 28 = 0
            rw [k1.1 28 (by decide)]
            exact s28
          · show s'.1 32 = 0
            rw [k1.1 32 (by decide)]
            exact s32
    refine ⟨⟨by show _ ≤ s'.1 24; omega, by show s'.1 24 < _; omega⟩, fun z => ?_, fun z => h49 1 (Or.inl rfl)⟩
    have z : s'.1 24 < 0 := z
    refine n_at nb110_48 (by omega) rfl (h49 0 (Or.inr ⟨rfl, ?_⟩))
    rcases k3 with k3 | k3
    · omega
    · exact k3.1
end N54
