/-! THE TASK MACHINE: calls, macros; a form; a body -/
section N45
variable {Z : Nat → List Int32} {d r h : Nat} {P : nS → Prop} {b s t : nS} {D H O D' H' O' : Nat → Int} {Q Q' : Nat → Prop} {z z' w i j : Nat} {f c v : Int} {xs : List Int}
/-- a call's forms: the rest of them -/
theorem n_rest (hL : n_LO Z d b P) (hd : 6 ≤ d) (IH : n_FC P b r h) (hm : n_RM (j + 1) v r h) : ∀ (xs : List Int) (s : nS) (D H O : Nat → Int) (z : Nat) (c : Int), n_BI b s D H O Q z → s.1 29 = (j : Int) + 1 → s.2 44 j = 1 → s.2 45 j = c → n_ch s O c f xs → (0 ≤ f ∧ f < s.1 17) → H f.toNat ≤ h + 1 → 12 - s.1 33 ≤ r → s.1 32 = v → n_SB s (s.1 31) → (∀ (s' : nS) (D' H' O' : Nat → Int) (z' : Nat), n_BI b s' D' H' O' Q z' → n_E j (s.1 32) z s D H O s' D' H' O' → z ≤ z' → s'.1 29 = (j : Int) → s'.1 31 = s.1 31 + xs.length → s'.1 32 = s.1 32 → P s') → P s
  | [], s, D, H, O, z, c, hB, hi, h44, h45, hc, hf, hH, hr, hv, hs, K => by
    have hi3 : j < 290 := by unfold n_RM at hm; omega
    have hB1 := n_BI_pop (x := (j : Int)) hB
    refine n_go hL hi (by omega) hB.2.1.2.2 h44 h45 rfl ?_
    have hcm : c = -1 := hc.1
    refine n_pf1 (d := d + 4) (s := (n_upd s.1 29 j, s.2)) (by omega) (Or.inl hcm) ⟨by show 0 ≤ (j : Int); omega, by show (j : Int) < 298; omega⟩ (fun _ => ⟨rfl, ?_⟩) (fun h => by omega)
    exact K _ _ _ _ _ hB1 n_E_pop (Nat.le_refl _) rfl (by show s.1 31 = s.1 31 + ((0 : Nat) : Int); omega) rfl
  | x :: xs, s, D, H, O, z, c, hB, hi, h44, h45, hc, hf, hH, hr, hv, hs, K => by
    have hi3 : j < 290 := by unfold n_RM at hm; omega
    have hB1 := n_BI_pop (x := (j : Int)) hB
    have hF := hB.2.2.1.1
    have hcx : c = x := hc.1.1
    have hxb : 0 ≤ x ∧ x < 1300 := ⟨hc.1.2.1, hc.1.2.2.1⟩
    refine n_go hL hi (by omega) hB.2.1.2.2 h44 h45 rfl ?_
    refine n_pf1 (d := d + 4) (s := (n_upd s.1 29 j, s.2)) (by omega) (Or.inr (by omega)) ⟨by show 0 ≤ (j : Int); omega, by show (j : Int) < 298; omega⟩ (fun h => by omega) (fun _ => ⟨rfl, ?_⟩)
    rw [hcx]
    have E1 : n_E j (s.1 32) z s D H O (n_push (n_upd s.1 29 j, s.2) 1 (s.2 41 x.toNat) 0) D H O := n_E_tr (n_E_pop (x := (j : Int)) (i := (j : Int)) (v := s.1 32) (w := z)) (n_E_push (i := (j : Int)) (v := s.1 32) (w := z) (Int.le_refl _) (by show 0 ≤ (j : Int); omega)) (Int.le_refl _) (Int.le_refl _) (Nat.le_refl _)
    obtain ⟨x1, x2, x3, x4, x5⟩ := n_cl (x := x) hF hc (by simp) hf hH E1.1
    obtain ⟨q1, q2, q3, q4⟩ := n_pushed (s := (n_upd s.1 29 (j : Int), s.2)) (k := 1) (x := s.2 41 x.toNat) (y := 0) (i := j) rfl
    refine n_sub (i := j + 1) IH (n_BI_push hB1) (by rw [q1]; omega) ⟨x1.1, x2⟩ x3 hr (by show n_RM (j + 1) (s.1 32) r h; rw [hv]; exact hm) hs ?_
    intro s1 D1 H1 O1 z1 k1 k2 k3 k4 k5 k6
    obtain ⟨w1, w2, w3⟩ := k2.2.2.2.2.1 j (by omega)
    have k5 : s1.1 31 = s.1 31 + 1 := k5
    have k6 : s1.1 32 = s.1 32 := k6
    have hE : n_E j (s.1 32) z s D H O s1 D1 H1 O1 := n_E_tr E1 k2 (by omega) (Int.le_refl _) (Nat.le_refl _)
    have c1 := n_ch_old hc hE.1
    have e41 : s1.2 41 x.toNat = s.2 41 x.toNat := (n_cl (x := x) hF hc (by simp) hf hH hE.1).2.2.2.2
    have hc2 : n_ch s1 O1 (s.2 41 x.toNat) f xs := ⟨by rw [← e41]; exact c1.1.2.2.2, fun y hy => c1.2 y (List.mem_cons_of_mem _ hy)⟩
    have h17 := hE.1.1
    have hHf := (hE.1.2.2.1 f.toNat (by omega)).2.2
    refine n_rest hL hd IH hm xs s1 D1 H1 O1 z1 (s.2 41 x.toNat) k1 (by rw [k4]; omega) (by rw [w1]; exact q2) (by rw [w2]; exact q3) hc2 ⟨hf.1, by omega⟩ (by rw [hHf]; exact hH) (by have := hE.2.1; omega) (by rw [k6]; exact hv) (n_SB_E hs hE k6 (by omega)) ?_
    intro s2 D2 H2 O2 z2 j1 j2 j3 j4 j5 j6
    refine K s2 D2 H2 O2 z2 j1 (n_E_tr hE j2 (Int.le_refl _) (by omega) (by omega)) (by omega) j4 ?_ (by omega)
    rw [j5, k5, List.length_cons]
    omega
/-- a call's own step -/
theorem n_mk4 {x : Int} {y : Nat} (hB : n_BI b s D H O Q z) (hx : n_rng x) (hy : (y : Int) ≤ s.1 31) (h0 : (n_fd (n_e (n_e (n_e (n_mark (n_e s 12) x) 0) 0) y) 31 (1 - (y : Int))).1 28 = 0) (hw : w ≤ z) : n_BI b (n_fd (n_e (n_e (n_e (n_mark (n_e s 12) x) 0) 0) y) 31 (1 - (y : Int))) (n_upd D (z + 4) (s.1 31 + 1 - y)) H O Q (z + 4) ∧ n_E f v w s D H O (n_fd (n_e (n_e (n_e (n_mark (n_e s 12) x) 0) 0) y) 31 (1 - (y : Int))) (n_upd D (z + 4) (s.1 31 + 1 - y)) H O := by
  obtain ⟨a0, ⟨g1, g2, g3⟩, a2, a3, ⟨d1, d2, d3⟩, a5, ⟨m0, m1⟩⟩ := hB
  have hz : s.1 30 + 1 + 1 + 1 + 1 ≤ 200 := (n_e28_0 (s := n_e (n_e (n_mark (n_e s 12) x) 0) 0) (x := (y : Int)) h0).2
  have e1 : (n_mark (n_e s 12) x).1 30 = ((z + 1 : Nat) : Int) := n_e30 (s := s) (x := 12) g1
  have e2 := n_e30 (s := n_mark (n_e s 12) x) (x := 0) e1
  have e3 := n_e30 (s := n_e (n_mark (n_e s 12) x) 0) (x := 0) e2
  generalize hT : n_fd (n_e (n_e (n_e (n_mark (n_e s 12) x) 0) 0) y) 31 (1 - (y : Int)) = T at h0 ⊢
  have hc : ∀ j, T.2 47 j = if j = z + 1 + 1 + 1 then n_by y else if j = z + 1 + 1 then n_by 0 else if j = z + 1 then n_by 0 else if j = z then n_by 12 else s.2 47 j := fun j => by
    rw [← hT]
    show (n_e (n_e (n_e (n_mark (n_e s 12) x) 0) 0) y).2 47 j = _
    rw [n_e47 e3, n_e47 e2, n_e47 e1]
    show (if j = z + 1 + 1 + 1 then n_by y else if j = z + 1 + 1 then n_by 0 else if j = z + 1 then n_by 0 else (n_e s 12).2 47 j) = _
    rw [n_e47 g1]
  have q1 : ∀ q, ¬ ((28 ≤ q ∧ q ≤ 31) ∨ q = 34) → T.1 q = s.1 q := fun q hk => by
    rw [← hT]
    show n_upd (n_upd (n_upd (n_upd (n_upd (n_upd (n_upd (n_upd (n_upd (n_upd s.1 30 _) 28 _) 34 _) 30 _) 28 _) 30 _) 28 _) 30 _) 28 _) 31 _ q = _
    rw [n_u_ne (by omega), n_u_ne (by omega), n_u_ne (by omega), n_u_ne (by omega), n_u_ne (by omega), n_u_ne (by omega), n_u_ne (by omega), n_u_ne (by omega), n_u_ne (by omega), n_u_ne (by omega)]
  have q2 : ∀ a i, ¬ (a = 47 ∨ a = 50 ∨ a = 51) → T.2 a i = s.2 a i := fun a i ha => by
    rw [← hT]
    show n_updA (n_updA (n_updA (n_updA (n_updA (n_updA s.2 47 _ _) 50 _ _) 51 _ _) 47 _ _) 47 _ _) 47 _ _ a i = _
    rw [n_ua_ne (by omega), n_ua_ne (by omega), n_ua_ne (by omega), n_ua_ne (by omega), n_ua_ne (by omega), n_ua_ne (by omega)]
  have t34 : T.1 34 = s.1 34 + 1 := by rw [← hT]; rfl
  have t30 : T.1 30 = ((z + 4 : Nat) : Int) := by rw [← hT]; show s.1 30 + 1 + 1 + 1 + 1 = _; omega
  have t31 : T.1 31 = s.1 31 + 1 - y := by rw [← hT]; show s.1 31 + (1 - (y : Int)) = _; omega
  have t50 : ∀ j, T.2 50 j = if j = (s.1 34).toNat then (z : Int) + 1 else s.2 50 j := fun j => by
    rw [← hT]
    show n_updA s.2 50 (s.1 34).toNat (s.1 30 + 1) 50 j = _
    rw [n_ua_eq, g1]
  have t51 : ∀ j, T.2 51 j = if j = (s.1 34).toNat then x else s.2 51 j := fun j => by
    rw [← hT]
    show n_updA s.2 51 (s.1 34).toNat x 51 j = _
    rw [n_ua_eq]
  have hbT : n_bf b T := by rw [← hT]; exact n_bf_fd (n_bf_e (n_bf_e (n_bf_e (n_bf_mark (n_bf_e a0))))) (by decide)
  have hz1 := a5.2.1
  have hcb : ∀ j, j < z → T.2 47 j = s.2 47 j := fun j hj => by
    rw [hc, if_neg (by omega), if_neg (by omega), if_neg (by omega), if_neg (by omega)]
  have hcz : T.2 47 z = 12 := by rw [hc, if_neg (by omega), if_neg (by omega), if_neg (by omega), if_pos rfl]; decide
  have hM : ∀ q, n_M s q → n_M T q := fun q hq => by
    obtain ⟨j, h1, h2⟩ := hq
    refine ⟨j, by rw [t34]; omega, ?_⟩
    rw [t50, if_neg (by omega)]
    exact h2
  have hsm : n_sm s T := ⟨⟨q1 17 (by decide), q1 18 (by decide), q1 33 (by decide)⟩, fun a i ha => q2 a i (by omega)⟩
  refine ⟨⟨hbT, ⟨t30, by omega, h0⟩, n_sm_GF hsm a2, ?_, ⟨by rw [t31, n_u_eq], by rw [t31]; omega, by rw [t31, t30]; omega⟩, ?_, ?_, ?_⟩, n_sm_old hsm, by rw [q1 33 (by decide)]; exact Int.le_refl _, fun j hj => hcb j (by omega), fun j hj => n_u_ne (by omega), fun j _ => ⟨q2 44 j (by decide), q2 45 j (by decide), q2 46 j (by decide)⟩, fun k _ => q2 49 k (by decide)⟩
  · unfold n_GN at *
    rw [q1 32 (by decide), show T.2 48 = s.2 48 from funext (fun i => q2 48 i (by decide))]
    exact a3
  · refine n_BC_app a5 (by decide) hcb (fun _ h => h) hM ?_
    have e4 : T.2 47 (z + 3) % 256 = (y : Int) := by
      rw [hc, if_pos rfl]
      exact n_by_small ⟨by omega, by omega⟩
    right; right; right; right; right; right; right; right
    rw [hcz, e4, n_u_eq, n_u_ne (show z ≠ z + 4 by omega), n_u_ne (show z + 1 ≠ z + 4 by omega), n_u_ne (show z + 2 ≠ z + 4 by omega), n_u_ne (show z + 3 ≠ z + 4 by omega), d1]
    refine ⟨rfl, by omega, rfl, hz1 _ (by omega), hz1 _ (by omega), hz1 _ (by omega), hy, (s.1 34).toNat, by rw [t34]; omega, ?_⟩
    rw [t50, if_pos rfl]
    omega
  · rw [t34, t30]
    omega
  · intro j hj
    rw [t34] at hj
    rw [t50, t51, t30]
    by_cases hjm : j = (s.1 34).toNat
    · rw [if_pos hjm, if_pos hjm]
      exact ⟨hx, z, rfl, by omega, by rw [n_u_ne (by omega), d1]; exact d2, hcz⟩
    · rw [if_neg hjm, if_neg hjm]
      obtain ⟨n1, p, n2, n3, n4, n5⟩ := m1 j (by omega)
      exact ⟨n1, p, n2, by omega, by rw [n_u_ne (by omega)]; exact n4, by rw [hcb p (by omega)]; exact n5⟩
/-- a call -/
theorem n_kCall {a x : Int} (hL : n_LO Z d b P) (hd : 6 ≤ d) (hI : n_IH P b r h i s D H O Q z f) (hx : n_rng x) (hc : n_ch s O c f (a :: xs)) : P (n_push (n_push s 12 x xs.length) 1 (s.2 41 a.toNat) 0) := by
  obtain ⟨IH, hB, hi, hf, hH, hr, hm, hs, K⟩ := hI
  obtain ⟨m1, m2, m3, m4⟩ := n_RM_1 hm
  have hd0 := hB.2.2.2.2.1.2.1
  obtain ⟨u1, u2, u3, u4⟩ := n_pushed (s := s) (k := 12) (x := x) (y := xs.length) hi
  have u1' : (n_push s 12 x xs.length).1 29 = ((i + 1 : Nat) : Int) := by rw [u1]; omega
  obtain ⟨v1, v2, v3, v4⟩ := n_pushed (s := n_push s 12 x xs.length) (k := 1) (x := s.2 41 a.toNat) (y := 0) u1'
  have E0 : n_E i (s.1 32) z s D H O (n_push s 12 x xs.length) D H O := n_E_push (by omega) (by omega)
  have E1 : n_E ((i + 1 : Nat) : Int) (s.1 32) z (n_push s 12 x xs.length) D H O (n_push (n_push s 12 x xs.length) 1 (s.2 41 a.toNat) 0) D H O := n_E_push (by rw [u1']; exact Int.le_refl _) (by rw [u1']; omega)
  have E2 := n_E_tr E0 E1 (by omega) (Int.le_refl _) (Nat.le_refl _)
  have hc2 : n_ch (n_push (n_push s 12 x xs.length) 1 (s.2 41 a.toNat) 0) O (s.2 41 a.toNat) f xs := by
    have c1 := n_ch_old hc E2.1
    refine ⟨?_, fun y hy => c1.2 y (List.mem_cons_of_mem _ hy)⟩
    exact c1.1.2.2.2
  refine n_rest (j := i + 1) (v := s.1 32) hL hd IH m2 xs _ D H O z (s.2 41 a.toNat) (n_BI_push (n_BI_push hB)) v1 v2 v3 hc2 hf hH hr rfl hs ?_
  intro s1 D1 H1 O1 z1 k1 k2 k3 k4 k5 k6
  have k5 : s1.1 31 = s.1 31 + xs.length := k5
  have k6 : s1.1 32 = s.1 32 := k6
  have t1 := (k2.2.2.2.2.1 i (by omega))
  have t0 := (E1.2.2.2.2.1 i (by omega))
  have hE : n_E i (s.1 32) z s D H O s1 D1 H1 O1 := n_E_tr E2 k2 (by omega) (Int.le_refl _) (Nat.le_refl _)
  have hB1 := n_BI_pop (x := (i : Int)) k1
  have hz3 : s1.1 30 = (z1 : Int) := k1.2.1.1
  have hz4 := k1.2.1.2.1
  have hmk := k1.2.2.2.2.2.2.1
  refine n_go hL (i := i) (by rw [k4]; omega) (by omega) k1.2.1.2.2 (k := 12) (x := x) (y := xs.length) (by rw [t1.1, t0.1]; exact u2) (by rw [t1.2.1, t0.2.1]; exact u3) (by rw [t1.2.2, t0.2.2]; exact u4) ?_
  refine n_pf12 (d := d + 3) (s := (n_upd s1.1 29 i, s1.2)) (by omega) ⟨hmk.1, by show s1.1 34 < 70; omega⟩ ⟨by show 0 ≤ s1.1 30; omega, by show s1.1 30 < 240; omega⟩ (Or.inl k1.2.1.2.2) ⟨rfl, ?_⟩
  refine n_bad hL (n_bf_fd (n_bf_e (n_bf_e (n_bf_e (n_bf_mark (n_bf_e hB1.1))))) (by decide)) ⟨by show 0 ≤ s1.1 30 + 1 + 1 + 1 + 1; omega, by show s1.1 30 + 1 + 1 + 1 + 1 ≤ 260; omega⟩ ⟨by show 0 ≤ (i : Int); omega, by show (i : Int) ≤ 300; omega⟩ (n_T01 _) (fun h0 => ?_)
  obtain ⟨o1, o2⟩ := n_mk4 (f := (i : Int)) (v := s.1 32) (w := z) (y := xs.length) hB1 hx (by show (xs.length : Int) ≤ s1.1 31; omega) h0 (by omega)
  refine K _ _ _ _ _ o1 (n_E_tr (n_E_tr hE (n_E_pop (x := (i : Int)) (i := (i : Int)) (v := s.1 32) (w := z)) (Int.le_refl _) (Int.le_refl _) (Nat.le_refl _)) o2 (Int.le_refl _) (Int.le_refl _) (Nat.le_refl _)) (by omega) rfl ?_ k6
  show s1.1 31 + (1 - (xs.length : Int)) = _
  omega
end N45
