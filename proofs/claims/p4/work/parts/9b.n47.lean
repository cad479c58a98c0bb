/-! A BODY'S CODE -/
def n_MKz (s : nS) (D : Nat → Int) (z : Nat) : Prop := (0 ≤ s.1 34 ∧ 4 * s.1 34 ≤ (z : Int)) ∧ (∀ j : Nat, (j : Int) < s.1 34 → n_rng (s.2 51 j) ∧ ∃ p : Nat, s.2 50 j = (p : Int) + 1 ∧ p + 4 ≤ z ∧ 0 ≤ D p ∧ s.2 47 p = 12)
/-- what a body leaves, if it isn't wrong -/
def n_BR (n e : Int) (s : nS) : Prop := ∃ (D : Nat → Int) (z : Nat), n_BC (s.2 47) z D (fun _ => False) (n_M s) ∧ n_MKz s D z ∧ D 0 = n ∧ D z = n + 1 ∧ s.2 47 z = e ∧ s.1 30 ≤ 200 ∧ ((e = 14 ∧ s.1 30 = (z : Int) + 1) ∨ (e = 13 ∧ s.1 30 = (z : Int) + 2))
/-- a body, wrong or not -/
def n_BP (b : nS) (H0 O0 : Nat → Int) (n e : Int) (r : nA) (s : nS) : Prop := r = none ∧ n_bf b s ∧ (s.1 28 = 0 ∨ s.1 28 = 1) ∧ (s.1 28 = 0 → n_BR n e s ∧ s.1 32 = n ∧ ∃ H O, n_FI s H O ∧ n_old b H0 O0 s H O)
def n_BJ (b : nS) (H0 O0 : Nat → Int) (s : nS) (n : Int) : Prop := ∃ (D H O : Nat → Int) (z : Nat), n_BI b s D H O (fun _ => False) z ∧ D 0 = n ∧ s.1 31 = n + 1 ∧ s.1 32 = n ∧ n_old b H0 O0 s H O
section N47
variable {Z : Nat → List Int32} {d : Nat} {b s : nS} {D H O H0 O0 : Nat → Int} {f e n : Int}
theorem n_sm_e {x : Int} : n_sm s (n_e s x) := ⟨⟨rfl, rfl, rfl⟩, fun a i ha => by
  show n_updA s.2 47 _ _ a i = _
  rw [n_ua_ne (by omega)]⟩
theorem n_b106 (hd : 6 ≤ d) {L : nL} (h : n_BP b H0 O0 n e none s) : NP Z d 128 106 L [] s (n_BP b H0 O0 n e) := n_at nb128_106 hd rfl ⟨rfl, h⟩
/-- the last step of code -/
theorem n_b90 (hd : 6 ≤ d) (he : e = 13 ∨ e = 14) (hb : n_bf b s) (h28 : s.1 28 = 0 ∨ s.1 28 = 1) (h30 : 0 ≤ s.1 30 ∧ s.1 30 ≤ 260) (hn : n_rng n) (hn2 : 0 ≤ n ∧ n ≤ 4) (h : s.1 28 = 0 → n_BJ b H0 O0 s n) : NP Z (d + 1) 128 90 [some (xR 25), some (xI f), some (xI e), some (xI n)] [] s (n_BP b H0 O0 n e) := by
  have hbe : ∀ (t : nS) (x : Int), n_bf b t → n_bf b (n_em t x) := by
    intro t x ht
    refine ⟨fun k hk => ?_, fun a i ha => ?_⟩
    · rw [n_em_S (by omega)]
      exact ht.1 k hk
    · rw [n_em_A (by omega)]
      exact ht.2 a i ha
  have b1 := n_em_b (s := s) (x := e) h30
  refine n_at nb128_90 (by omega) rfl ?_
  refine n_iv (vs := [xR 25, xI e]) (r := []) nn136 (by simp) rfl nc136 (ng136 hd h30 h28) (fun r s' hr => ?_)
  rw [hr.1, hr.2]
  refine ⟨⟨by omega, by omega⟩, ⟨by decide, by decide⟩, fun z => ?_, fun z => ?_⟩
  · refine n_b106 (by omega) ⟨rfl, hbe _ _ hb, b1.2, fun h0 => ?_⟩
    have z : ¬ e = 13 := z
    have he14 : e = 14 := by omega
    subst he14
    have hlt : s.1 30 < 260 := by
      apply Classical.byContradiction
      intro hc
      unfold n_em at h0
      rw [if_neg hc] at h0
      have := n_T00 h0
      omega
    rw [n_em_e hlt] at h0 ⊢
    have h1 := n_e28_0 h0
    obtain ⟨D, H, O, z0, ⟨a0, ⟨g1, g2, g3⟩, a2, a3, ⟨d1, d2, d3⟩, a5, a6⟩, i1, i2, i3, i4⟩ := h h1.1
    have hcb : ∀ j, (n_e s 14).2 47 j = if j = z0 then n_by 14 else s.2 47 j := fun j => n_e47 g1
    have hcv : n_BC ((n_e s 14).2 47) z0 D (fun _ => False) (n_M (n_e s 14)) := by
      refine ⟨a5.1, a5.2.1, fun p hp hD => ?_⟩
      exact n_cv_app (a5.2.2 p hp hD) (Nat.le_refl _) (fun j hj => by rw [hcb, if_neg (by omega)]) (fun _ _ => rfl) (fun _ h => h) (fun _ h => h)
    refine ⟨⟨D, z0, hcv, ⟨⟨a6.1.1, by have := a6.1.2; show 4 * s.1 34 ≤ _; omega⟩, fun j hj => ?_⟩, i1, by rw [d1]; exact i2, by rw [hcb, if_pos rfl]; decide, h1.2, Or.inl ⟨rfl, by show s.1 30 + 1 = _; omega⟩⟩, i3, H, O, n_sm_FI n_sm_e a2.1, n_old_tr i4 (n_sm_old n_sm_e)⟩
    obtain ⟨n1, p, n2, n3, n4, n5⟩ := a6.2 j hj
    exact ⟨n1, p, n2, by omega, n4, by rw [hcb, if_neg (by omega)]; exact n5⟩
  · have z : e = 13 := z
    subst z
    refine n_iv (vs := [xR 25, xI n]) (r := []) nn136 (by simp) rfl nc136 (ng136 hd b1.1 b1.2) (fun r s' hr => ?_)
    rw [hr.1, hr.2]
    have b2 := n_em_b (s := n_em s 13) (x := n) b1.1
    refine n_b106 (by omega) ⟨rfl, hbe _ _ (hbe _ _ hb), b2.2, fun h0 => ?_⟩
    have hlt2 : (n_em s 13).1 30 < 260 := by
      apply Classical.byContradiction
      intro hc
      unfold n_em at h0
      have hc2 := hc
      unfold n_em at hc2
      rw [if_neg hc2] at h0
      have := n_T00 h0
      omega
    rw [n_em_e hlt2] at h0 ⊢
    have h2 := n_e28_0 h0
    have hlt : s.1 30 < 260 := by
      apply Classical.byContradiction
      intro hc
      have h3 := h2.2
      unfold n_em at h3
      rw [if_neg hc] at h3
      have h3 : s.1 30 + 1 ≤ 200 := h3
      omega
    rw [n_em_e hlt] at h0 h2 ⊢
    have h1 := n_e28_0 h2.1
    obtain ⟨D, H, O, z0, ⟨a0, ⟨g1, g2, g3⟩, a2, a3, ⟨d1, d2, d3⟩, a5, a6⟩, i1, i2, i3, i4⟩ := h h1.1
    have e1 := n_e30 (s := s) (x := 13) g1
    have hcb : ∀ j, (n_e (n_e s 13) n).2 47 j = if j = z0 + 1 then n_by n else if j = z0 then n_by 13 else s.2 47 j := fun j => by rw [n_e47 e1, n_e47 g1]
    have hcv : n_BC ((n_e (n_e s 13) n).2 47) z0 D (fun _ => False) (n_M (n_e (n_e s 13) n)) := by
      refine ⟨a5.1, a5.2.1, fun p hp hD => ?_⟩
      exact n_cv_app (a5.2.2 p hp hD) (Nat.le_refl _) (fun j hj => by rw [hcb, if_neg (by omega), if_neg (by omega)]) (fun _ _ => rfl) (fun _ h => h) (fun _ h => h)
    refine ⟨⟨D, z0, hcv, ⟨⟨a6.1.1, by have := a6.1.2; show 4 * s.1 34 ≤ _; omega⟩, fun j hj => ?_⟩, i1, by rw [d1]; exact i2, by rw [hcb, if_neg (by omega), if_pos rfl]; decide, h2.2, Or.inr ⟨rfl, by show s.1 30 + 1 + 1 = _; omega⟩⟩, i3, H, O, n_sm_FI n_sm_e (n_sm_FI n_sm_e a2.1), n_old_tr i4 (n_old_tr (n_sm_old n_sm_e) (n_sm_old n_sm_e))⟩
    obtain ⟨n1, p, n2, n3, n4, n5⟩ := a6.2 j hj
    exact ⟨n1, p, n2, by omega, n4, by rw [hcb, if_neg (by omega), if_neg (by omega)]; exact n5⟩
/-- the loop over the tasks -/
theorem n_LO_128 (hd : 6 ≤ d) (he : e = 13 ∨ e = 14) (hn2 : 0 ≤ n ∧ n ≤ 4) : n_LO Z d b (fun s => NP Z (d + 6) 128 32 [some (xR 25), some (xI f), some (xI e), some (xI n)] [] s (n_BP b H0 O0 n e)) := by
  refine ⟨fun s hb h30 h29 h28 => ?_, fun s i hi hi2 hb hG => ?_⟩
  · have h90 := n_b90 (Z := Z) (d := d + 5) (H0 := H0) (O0 := O0) (f := f) (by omega) he hb (Or.inr h28) h30 ⟨by omega, by omega⟩ hn2 (fun h0 => by rw [h28] at h0; exact absurd h0 (by decide))
    refine n_at nb128_32 (by omega) rfl ⟨⟨by omega, by omega⟩, fun _ => h90, fun _ => ⟨⟨by omega, by omega⟩, fun _ => h90, fun z => ?_⟩⟩
    have z : s.1 28 = 0 := z
    omega
  · refine n_at nb128_32 (by omega) rfl ⟨⟨by omega, by omega⟩, fun z => ?_, fun _ => ⟨⟨by omega, by omega⟩, fun z => absurd hb z, fun _ => ?_⟩⟩
    · have z : s.1 29 ≤ 0 := z
      omega
    have e1 : s.1 29 - 1 = (i : Int) := by omega
    show ((0 ≤ s.1 29 - 1 ∧ s.1 29 - 1 < 300) ∧ (0 ≤ s.1 29 - 1 ∧ s.1 29 - 1 < 300) ∧ (0 ≤ s.1 29 - 1 ∧ s.1 29 - 1 < 300) ∧ _)
    refine ⟨⟨by omega, by omega⟩, ⟨by omega, by omega⟩, ⟨by omega, by omega⟩, ?_⟩
    rw [e1]
    show wq _ _ _ _ _ [xI (s.2 46 i), xI (s.2 45 i), xI (s.2 44 i), xR 25] (n_upd s.1 29 i, s.2)
    refine n_iv (d := d + 5) (vs := [xR 25, xI (s.2 44 i), xI (s.2 45 i), xI (s.2 46 i)]) (r := []) nn130 (by simp) rfl nc130 hG (fun r s' hr => ?_)
    rw [hr.1]
    exact hr.2
/-- body -/
theorem ng128 (hd : 6 ≤ d) (hU : n_MU b) (he : e = 13 ∨ e = 14) (hn : 0 ≤ n ∧ n ≤ 4) (hf : 0 ≤ f ∧ f < b.1 17) (hF : n_FI b H O) (hH : H f.toNat ≤ 8) (h17 : b.1 17 ≤ 95 ∧ b.1 18 ≤ 95) (h28 : b.1 28 = 0) (h32 : b.1 32 = n) (hsy : ∀ k : Nat, (k : Int) < n → n_rng (b.2 48 k) ∧ b.2 49 k = k) : NG Z (d + 6) 128 [xR 25, xI f, xI e, xI n] b (n_BP b H O n e) := by
  refine n_G_of (L := [some (xR 25), some (xI f), some (xI e), some (xI n)]) (by rw [nl128]; exact Nat.le_of_ble_eq_true rfl) (by rw [nl128]; rfl) ?_
  refine n_at nb128_0 (by omega) rfl ?_
  show wq _ _ _ _ _ [xI 0, xI f, xI 0, xR 25] (n_upd (n_upd (n_upd (n_upd (n_upd b.1 29 0) 30 0) 31 n) 33 0) 34 0, b.2)
  generalize hS : (n_upd (n_upd (n_upd (n_upd (n_upd b.1 29 0) 30 0) 31 n) 33 0) 34 0, b.2) = S
  have s29 : S.1 29 = ((0 : Nat) : Int) := by rw [← hS]; rfl
  have s30 : S.1 30 = ((0 : Nat) : Int) := by rw [← hS]; rfl
  have s31 : S.1 31 = n := by rw [← hS]; rfl
  have s32 : S.1 32 = n := by rw [← hS]; exact h32
  have s33 : S.1 33 = 0 := by rw [← hS]; rfl
  have s34 : S.1 34 = 0 := by rw [← hS]; rfl
  have s28 : S.1 28 = 0 := by rw [← hS]; exact h28
  have s17 : S.1 17 = b.1 17 := by rw [← hS]; rfl
  have s18 : S.1 18 = b.1 18 := by rw [← hS]; rfl
  have sA : S.2 = b.2 := by rw [← hS]
  have sbf : n_bf b S := by
    refine ⟨fun k hk => ?_, fun a i _ => by rw [sA]⟩
    rw [← hS]
    show n_upd (n_upd (n_upd (n_upd (n_upd b.1 29 0) 30 0) 31 n) 33 0) 34 0 k = _
    rw [n_u_ne (by omega), n_u_ne (by omega), n_u_ne (by omega), n_u_ne (by omega), n_u_ne (by omega)]
  have hFS : n_FI S H O := by rw [← hS]; exact hF
  have hBI : n_BI b S (fun p => if p = 0 then n else -1) H O (fun _ => False) 0 := by
    refine ⟨sbf, ⟨s30, by decide, s28⟩, ⟨hFS, by rw [s33]; decide, by rw [s17, s33]; omega, by rw [s18, s33]; omega⟩, ⟨by rw [s32]; omega, fun k hk => ?_⟩, ⟨by rw [s31]; rfl, by rw [s31]; exact hn.1, by rw [s31, s30]; omega⟩, ⟨hn.1, fun p hp => ?_, fun p hp => by omega⟩, ⟨by rw [s34, s30]; decide, fun j hj => by rw [s34] at hj; omega⟩⟩
    · rw [s32] at hk
      rw [sA]
      exact (hsy k hk).1
    · show (if p = 0 then n else -1) < 0
      rw [if_neg (by omega)]
      decide
  have hL := n_LO_128 (Z := Z) (b := b) (H0 := H) (O0 := O) (f := f) hd he hn
  refine n_iv (d := d + 5) (vs := [xR 25, xI 0, xI f, xI 0]) (r := []) nn129 (by simp) rfl nc129 (ng129 (s := S) (by omega) (by rw [s29]; decide)) (fun r s' hr => ?_)
  rw [hr.1, hr.2]
  refine n_sub (f := f) (z := 0) (i := 0) (n_FC_all hL hd hU 12 8) hBI s29 (by rw [s17]; exact hf) hH (by rw [s33]; decide) ?_ ?_ ?_
  · rw [s32]
    unfold n_RM
    omega
  · intro k hk
    rw [s32] at hk
    rw [sA, s31, (hsy k hk).2]
    omega
  · intro s1 D1 H1 O1 z1 k1 k2 k3 k4 k5 k6
    have h30 : s1.1 30 = (z1 : Int) := k1.2.1.1
    have hz := k1.2.1.2.1
    have hold0 : n_old S H O s1 H1 O1 → n_old b H O s1 H1 O1 := fun hq => by
      unfold n_old at *
      rw [s17, s18, sA] at hq
      exact hq
    have h90 := n_b90 (Z := Z) (d := d + 5) (f := f) (by omega) he k1.1 (Or.inl k1.2.1.2.2) ⟨by omega, by omega⟩ ⟨by omega, by omega⟩ hn (fun _ => ⟨D1, H1, O1, z1, k1, by rw [k2.2.2.2.1 0 (Nat.le_refl _)]; rfl, by rw [k5, s31], by rw [k6, s32], hold0 k2.1⟩)
    refine n_at nb128_32 (by omega) rfl ⟨⟨by rw [k4]; decide, by rw [k4]; decide⟩, fun _ => h90, fun z => ?_⟩
    have z : ¬ s1.1 29 ≤ 0 := z
    omega
end N47
