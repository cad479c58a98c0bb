/-! THE TASK MACHINE: names, many forms, slots, runs -/
section N43
variable {Z : Nat → List Int32} {d r h : Nat} {P : nS → Prop} {b s t : nS} {D H O D' H' O' : Nat → Int} {Q Q' : Nat → Prop} {z z' w i : Nat} {f c v : Int} {xs : List Int}
theorem n_BI_kn {x y : Int} (hB : n_BI b s D H O Q z) (hv : s.1 32 < 110) (hx : n_rng x) : n_BI b (n_kn s x y) D H O Q z := by
  obtain ⟨a0, a1, a2, a3, a4, a5, a6⟩ := hB
  have e : ∀ a i, ¬ (a = 48 ∨ a = 49) → (n_kn s x y).2 a i = s.2 a i := fun a i ha => by
    show n_updA (n_updA s.2 48 _ _) 49 _ _ a i = _
    rw [n_ua_ne (by omega), n_ua_ne (by omega)]
  refine ⟨n_bf_kn a0, a1, n_sm_GF (s := s) (t := n_kn s x y) ⟨⟨rfl, rfl, rfl⟩, fun a i ha => e a i (by omega)⟩ a2, ⟨⟨?_, ?_⟩, fun k hk => ?_⟩, a4, a5, a6⟩
  · show 0 ≤ s.1 32 + 1
    have := a3.1
    omega
  · show s.1 32 + 1 ≤ 110
    omega
  · show n_rng (n_updA s.2 48 (s.1 32).toNat x 48 k)
    have hk : (k : Int) < s.1 32 + 1 := hk
    rw [n_ua_eq]
    split
    · exact hx
    · exact a3.2 k (by have := a3.1; omega)
theorem n_E_kn {x y j : Int} (hv : v ≤ s.1 32) (h0 : 0 ≤ s.1 32) : n_E j v w s D H O (n_kn s x y) D H O := by
  have e : ∀ a i, ¬ (a = 48 ∨ a = 49) → (n_kn s x y).2 a i = s.2 a i := fun a i ha => by
    show n_updA (n_updA s.2 48 _ _) 49 _ _ a i = _
    rw [n_ua_ne (by omega), n_ua_ne (by omega)]
  refine ⟨n_sm_old ⟨⟨rfl, rfl, rfl⟩, fun a i ha => e a i (by omega)⟩, Int.le_refl _, fun j _ => e 47 j (by decide), fun _ _ => rfl, fun j _ => ⟨e _ _ (by decide), e _ _ (by decide), e _ _ (by decide)⟩, fun k hk => ?_⟩
  show n_updA s.2 49 (s.1 32).toNat y 49 k = _
  rw [n_ua_eq, if_neg (by omega)]
theorem n_BI_un (hB : n_BI b s D H O Q z) (hv : 1 ≤ s.1 32) : n_BI b (n_fd s 32 (-1)) D H O Q z := by
  obtain ⟨a0, a1, a2, a3, a4, a5, a6⟩ := hB
  refine ⟨n_bf_fd a0 (by decide), a1, n_sm_GF (s := s) (t := n_fd s 32 (-1)) ⟨⟨rfl, rfl, rfl⟩, fun _ _ _ => rfl⟩ a2, ⟨⟨?_, ?_⟩, fun k hk => ?_⟩, a4, a5, a6⟩
  · show 0 ≤ s.1 32 + -1
    omega
  · show s.1 32 + -1 ≤ 110
    have := a3.1
    omega
  · have hk : (k : Int) < s.1 32 + -1 := hk
    exact a3.2 k (by omega)
/-- a let -/
theorem n_kLet {a x y g : Int} (hL : n_LO Z d b P) (hd : 6 ≤ d) (hI : n_IH P b r h i s D H O Q z f) (hk1 : s.2 38 (s.2 40 x.toNat).toNat = 1) (hc : n_ch s O (s.2 39 f.toNat) f [a, x, y, g]) : P (n_push (n_push s 6 f 0) 0 (s.2 40 y.toNat) 0) := by
  obtain ⟨IH, hB, hi, hf, hH, hr, hm, hs, K⟩ := hI
  obtain ⟨m1, m2, m3, m4⟩ := n_RM_1 hm
  have hF := hB.2.2.1.1
  have hd0 := hB.2.2.2.2.1.2.1
  obtain ⟨ff, -, -, -⟩ := n_form1 hF hf
  obtain ⟨y1, y2, y3, -, -⟩ := n_cl (x := y) hF hc (by simp) hf hH n_old_rf
  obtain ⟨u1, u2, u3, u4⟩ := n_pushed (s := s) (k := 6) (x := f) (y := 0) hi
  have E0 : n_E i (s.1 32) z s D H O (n_push s 6 f 0) D H O := n_E_push (by omega) (by omega)
  refine n_sub (i := i + 1) IH (n_BI_push hB) (by rw [u1]; omega) y1 y3 hr m1 hs ?_
  intro s1 D1 H1 O1 z1 k1 k2 k3 k4 k5 k6
  obtain ⟨w1, w2, w3⟩ := k2.2.2.2.2.1 i (by omega)
  have k5 : s1.1 31 = s.1 31 + 1 := k5
  have k6 : s1.1 32 = s.1 32 := k6
  have hE : n_E i (s.1 32) z s D H O s1 D1 H1 O1 := n_E_tr E0 k2 (by omega) (Int.le_refl _) (Nat.le_refl _)
  obtain ⟨x1, x2, x3, x4, -⟩ := n_cl (x := x) hF hc (by simp) hf hH hE.1
  obtain ⟨g1, g2, g3, g4, -⟩ := n_cl (x := g) hF hc (by simp) hf hH hE.1
  have e39 := (hE.1.2.2.1 f.toNat (by omega)).2.1
  have c1 := n_ch_old hc hE.1
  have hB1 := n_BI_pop (x := (i : Int)) k1
  have hF1 := k1.2.2.1.1
  have hsy : n_rng (s1.2 39 (s1.2 40 x.toNat).toNat) := by
    rw [x4]
    refine (n_form1 hF1 ⟨x1.1, x2⟩).2.2.1 ?_
    rw [(hE.1.2.2.1 (s.2 40 x.toNat).toNat (by omega)).1]
    exact hk1
  have hfr := (n_form1 hF1 ⟨x1.1, x2⟩).1
  have hvm : s.1 32 < 100 := by unfold n_RM at hm; omega
  have hv0 := hB.2.2.2.1.1.1
  refine n_go hL (i := i) (by rw [k4]; omega) (by omega) k1.2.1.2.2 (k := 6) (x := f) (y := 0) (by rw [w1]; exact u2) (by rw [w2]; exact u3) (by rw [w3]; exact u4) ?_
  refine n_pf6 (d := d + 4) (s := (n_upd s1.1 29 i, s1.2)) (xs := [a, x, y, g]) (b := x) (c := g) (by omega) ff (by show n_isch s1.2 (s1.2 39 f.toNat) _; rw [e39]; exact c1.1) rfl rfl (by show 0 ≤ s1.2 40 x.toNat ∧ s1.2 40 x.toNat < 1300; rw [x4]; exact hfr) ⟨by show 0 ≤ (i : Int); omega, by show (i : Int) < 298; omega⟩ ⟨by show 0 ≤ s1.1 32; omega, by show s1.1 32 < 120; omega⟩ ⟨rfl, ?_⟩
  show P (n_push (n_push (n_kn (n_upd s1.1 29 i, s1.2) (s1.2 39 (s1.2 40 x.toNat).toNat) (s1.1 31 - 1)) 7 0 0) 0 (s1.2 40 g.toNat) 0)
  rw [g4]
  have B2 := n_BI_kn (y := s1.1 31 - 1) hB1 (by show s1.1 32 < 110; omega) hsy
  obtain ⟨q1, q2, q3, q4⟩ := n_pushed (s := n_kn (n_upd s1.1 29 i, s1.2) (s1.2 39 (s1.2 40 x.toNat).toNat) (s1.1 31 - 1)) (k := 7) (x := 0) (y := 0) (i := i) rfl
  have E1 : n_E i (s.1 32) z s D H O (n_push (n_kn (n_upd s1.1 29 i, s1.2) (s1.2 39 (s1.2 40 x.toNat).toNat) (s1.1 31 - 1)) 7 0 0) D1 H1 O1 := n_E_tr (n_E_tr (n_E_tr hE (n_E_pop (x := (i : Int)) (i := (i : Int)) (v := s.1 32) (w := z)) (Int.le_refl _) (Int.le_refl _) (Nat.le_refl _)) (n_E_kn (j := (i : Int)) (v := s.1 32) (w := z) (by show s.1 32 ≤ s1.1 32; omega) (by show 0 ≤ s1.1 32; omega)) (Int.le_refl _) (Int.le_refl _) (Nat.le_refl _)) (n_E_push (i := (i : Int)) (v := s.1 32) (w := z) (Int.le_refl _) (by show 0 ≤ (i : Int); omega)) (Int.le_refl _) (Int.le_refl _) (Nat.le_refl _)
  refine n_sub (i := i + 1) IH (n_BI_push B2) (by rw [q1]; omega) ⟨g1.1, g2⟩ g3 (by show 12 - s1.1 33 ≤ _; have := hE.2.1; omega) (by show n_RM (i + 1) (s1.1 32 + 1) r h; rw [k6]; exact m3) ?_ ?_
  · intro k hk
    have hk : (k : Int) < s1.1 32 + 1 := hk
    show 0 ≤ n_updA s1.2 49 (s1.1 32).toNat (s1.1 31 - 1) 49 k ∧ n_updA s1.2 49 (s1.1 32).toNat (s1.1 31 - 1) 49 k < s1.1 31
    rw [n_ua_eq]
    split
    · omega
    · have := hs k (by omega)
      rw [hE.2.2.2.2.2 k (by omega)]
      omega
  intro s2 D2 H2 O2 z2 j1 j2 j3 j4 j5 j6
  obtain ⟨w1, w2, w3⟩ := j2.2.2.2.2.1 i (by omega)
  have j5 : s2.1 31 = s1.1 31 + 1 := j5
  have j6 : s2.1 32 = s1.1 32 + 1 := j6
  have hE2 : n_E i (s.1 32) z s D H O s2 D2 H2 O2 := n_E_tr E1 j2 (by omega) (by show s.1 32 ≤ s1.1 32 + 1; omega) k3
  have hB2 := n_BI_pop (x := (i : Int)) j1
  have hz3 : s2.1 30 = (z2 : Int) := j1.2.1.1
  have hz4 := j1.2.1.2.1
  refine n_go hL (i := i) (by rw [j4]; omega) (by omega) j1.2.1.2.2 (k := 7) (x := 0) (y := 0) (by rw [w1]; exact q2) (by rw [w2]; exact q3) (by rw [w3]; exact q4) ?_
  refine n_pf7 (d := d + 4) (by omega) ⟨by show 0 ≤ s2.1 30; omega, by show s2.1 30 < 240; omega⟩ (Or.inl j1.2.1.2.2) ⟨rfl, ?_⟩
  refine n_bad hL (n_bf_fd (n_bf_fd (n_bf_e hB2.1) (by decide)) (by decide)) ⟨by show 0 ≤ s2.1 30 + 1; omega, by show s2.1 30 + 1 ≤ 260; omega⟩ ⟨by show 0 ≤ (i : Int); omega, by show (i : Int) ≤ 300; omega⟩ (n_T01 _) (fun h0 => ?_)
  obtain ⟨o1, o2⟩ := n_op1 (f := (i : Int)) (v := s.1 32) (w := z) hB2 (Or.inr ⟨Or.inr rfl, by show 2 ≤ s2.1 31; omega⟩) h0 (by omega)
  have E3 : n_E i (s.1 32) z s D H O (n_fd (n_fd (n_e (n_upd s2.1 29 i, s2.2) 9) 31 (-1)) 32 (-1)) (n_upd D2 (z2 + 1) (s2.1 31 - 1)) H2 O2 := n_E_tr (n_E_tr hE2 (n_E_pop (x := (i : Int)) (i := (i : Int)) (v := s.1 32) (w := z)) (Int.le_refl _) (Int.le_refl _) (Nat.le_refl _)) o2 (Int.le_refl _) (Int.le_refl _) (Nat.le_refl _)
  refine K _ _ _ _ _ (n_BI_un o1 (by show 1 ≤ s2.1 32; omega)) E3 (by omega) rfl ?_ ?_
  · show s2.1 31 + -1 = _
    omega
  · show s2.1 32 + -1 = _
    omega
/-- forms one behind the other: the rest of them -/
theorem n_many (hL : n_LO Z d b P) (hd : 6 ≤ d) (IH : n_FC P b r h) (hm : n_RM (i + 1) v r h) : ∀ (xs : List Int) (s : nS) (D H O : Nat → Int) (z : Nat) (c : Int), n_BI b s D H O Q z → s.1 29 = (i : Int) + 1 → s.2 44 i = 8 → s.2 45 i = c → n_ch s O c f xs → (0 ≤ f ∧ f < s.1 17) → H f.toNat ≤ h + 1 → 12 - s.1 33 ≤ r → s.1 32 = v → 1 ≤ s.1 31 → n_SB s (s.1 31 - 1) → (∀ (s' : nS) (D' H' O' : Nat → Int) (z' : Nat), n_BI b s' D' H' O' Q z' → n_E i (s.1 32) z s D H O s' D' H' O' → z ≤ z' → s'.1 29 = (i : Int) → s'.1 31 = s.1 31 → s'.1 32 = s.1 32 → P s') → P s
  | [], s, D, H, O, z, c, hB, hi, h44, h45, hc, hf, hH, hr, hv, h31, hs, K => by
    have hi3 : i < 290 := by unfold n_RM at hm; omega
    have hB1 := n_BI_pop (x := (i : Int)) hB
    have hz : s.1 30 = (z : Int) := hB.2.1.1
    have hz2 := hB.2.1.2.1
    refine n_go hL hi (by omega) hB.2.1.2.2 h44 h45 rfl ?_
    have hcm : c = -1 := hc.1
    refine n_pf8 (d := d + 4) (s := (n_upd s.1 29 i, s.2)) (by omega) (Or.inl hcm) ⟨by show 0 ≤ (i : Int); omega, by show (i : Int) < 298; omega⟩ ⟨by show 0 ≤ s.1 30; omega, by show s.1 30 < 240; omega⟩ (Or.inl hB.2.1.2.2) (fun _ => ⟨rfl, ?_⟩) (fun h => by omega)
    exact K _ _ _ _ _ hB1 n_E_pop (Nat.le_refl _) rfl rfl rfl
  | x :: xs, s, D, H, O, z, c, hB, hi, h44, h45, hc, hf, hH, hr, hv, h31, hs, K => by
    have hi3 : i < 290 := by unfold n_RM at hm; omega
    have hB1 := n_BI_pop (x := (i : Int)) hB
    have hz : s.1 30 = (z : Int) := hB.2.1.1
    have hz2 := hB.2.1.2.1
    have hF := hB.2.2.1.1
    have hcx : c = x := hc.1.1
    have hxb : 0 ≤ x ∧ x < 1300 := ⟨hc.1.2.1, hc.1.2.2.1⟩
    refine n_go hL hi (by omega) hB.2.1.2.2 h44 h45 rfl ?_
    refine n_pf8 (d := d + 4) (s := (n_upd s.1 29 i, s.2)) (by omega) (Or.inr (by omega)) ⟨by show 0 ≤ (i : Int); omega, by show (i : Int) < 298; omega⟩ ⟨by show 0 ≤ s.1 30; omega, by show s.1 30 < 240; omega⟩ (Or.inl hB.2.1.2.2) (fun h => by omega) (fun _ => ⟨rfl, ?_⟩)
    rw [hcx]
    refine n_bad hL (n_bf_push (n_bf_push (n_bf_fd (n_bf_e hB1.1) (by decide)))) ⟨by show 0 ≤ s.1 30 + 1; omega, by show s.1 30 + 1 ≤ 260; omega⟩ ⟨by show 0 ≤ (i : Int) + 1 + 1; omega, by show (i : Int) + 1 + 1 ≤ 300; omega⟩ (n_T01 _) (fun h0 => ?_)
    obtain ⟨o1, o2⟩ := n_op1 (f := (i : Int)) (v := s.1 32) (w := z) hB1 (Or.inl ⟨rfl, h31⟩) h0 (Nat.le_refl _)
    have E0 : n_E i (s.1 32) z s D H O (n_fd (n_e (n_upd s.1 29 i, s.2) 10) 31 (-1)) (n_upd D (z + 1) (s.1 31 - 1)) H O := n_E_tr (n_E_pop (x := (i : Int)) (i := (i : Int)) (v := s.1 32) (w := z)) o2 (Int.le_refl _) (Int.le_refl _) (Nat.le_refl _)
    have E1 : n_E i (s.1 32) z s D H O (n_push (n_fd (n_e (n_upd s.1 29 i, s.2) 10) 31 (-1)) 8 (s.2 41 x.toNat) 0) (n_upd D (z + 1) (s.1 31 - 1)) H O := n_E_tr E0 (n_E_push (i := (i : Int)) (v := s.1 32) (w := z) (Int.le_refl _) (by show 0 ≤ (i : Int); omega)) (Int.le_refl _) (Int.le_refl _) (Nat.le_refl _)
    obtain ⟨x1, x2, x3, x4, x5⟩ := n_cl (x := x) hF hc (by simp) hf hH E1.1
    obtain ⟨q1, q2, q3, q4⟩ := n_pushed (s := n_fd (n_e (n_upd s.1 29 i, s.2) 10) 31 (-1)) (k := 8) (x := s.2 41 x.toNat) (y := 0) (i := i) rfl
    refine n_sub (i := i + 1) IH (n_BI_push o1) (by rw [q1]; omega) ⟨x1.1, x2⟩ x3 hr (by show n_RM (i + 1) (s.1 32) r h; rw [hv]; exact hm) (n_SB_E hs E1 rfl (by show s.1 31 - 1 ≤ s.1 31 + -1; omega)) ?_
    intro s1 D1 H1 O1 z1 k1 k2 k3 k4 k5 k6
    obtain ⟨w1, w2, w3⟩ := k2.2.2.2.2.1 i (by omega)
    have k5 : s1.1 31 = s.1 31 + -1 + 1 := k5
    have k6 : s1.1 32 = s.1 32 := k6
    have hE : n_E i (s.1 32) z s D H O s1 D1 H1 O1 := n_E_tr E1 k2 (by omega) (Int.le_refl _) (by omega)
    have c1 := n_ch_old hc hE.1
    have e41 : s1.2 41 x.toNat = s.2 41 x.toNat := (n_cl (x := x) hF hc (by simp) hf hH hE.1).2.2.2.2
    have hc2 : n_ch s1 O1 (s.2 41 x.toNat) f xs := ⟨by rw [← e41]; exact c1.1.2.2.2, fun y hy => c1.2 y (List.mem_cons_of_mem _ hy)⟩
    have h17 := hE.1.1
    have hHf := (hE.1.2.2.1 f.toNat (by omega)).2.2
    refine n_many hL hd IH hm xs s1 D1 H1 O1 z1 (s.2 41 x.toNat) k1 (by rw [k4]; omega) (by rw [w1]; exact q2) (by rw [w2]; exact q3) hc2 ⟨hf.1, by omega⟩ (by rw [hHf]; exact hH) (by have := hE.2.1; omega) (by rw [k6]; exact hv) (by omega) (n_SB_E hs hE k6 (by omega)) ?_
    intro s2 D2 H2 O2 z2 j1 j2 j3 j4 j5 j6
    exact K s2 D2 H2 O2 z2 j1 (n_E_tr hE j2 (Int.le_refl _) (by omega) (by omega)) (by omega) j4 (by omega) (by omega)
/-- a do -/
theorem n_kDo {a x : Int} (hL : n_LO Z d b P) (hd : 6 ≤ d) (hI : n_IH P b r h i s D H O Q z f) (hc : n_ch s O c f (a :: x :: xs)) : P (n_push (n_push s 8 (s.2 41 x.toNat) 0) 0 (s.2 40 x.toNat) 0) := by
  obtain ⟨IH, hB, hi, hf, hH, hr, hm, hs, K⟩ := hI
  obtain ⟨m1, m2, m3, m4⟩ := n_RM_1 hm
  have hF := hB.2.2.1.1
  have hd0 := hB.2.2.2.2.1.2.1
  obtain ⟨x1, x2, x3, -, -⟩ := n_cl (x := x) hF hc (by simp) hf hH n_old_rf
  obtain ⟨u1, u2, u3, u4⟩ := n_pushed (s := s) (k := 8) (x := s.2 41 x.toNat) (y := 0) hi
  have E0 : n_E i (s.1 32) z s D H O (n_push s 8 (s.2 41 x.toNat) 0) D H O := n_E_push (by omega) (by omega)
  refine n_sub (i := i + 1) IH (n_BI_push hB) (by rw [u1]; omega) x1 x3 hr m1 hs ?_
  intro s1 D1 H1 O1 z1 k1 k2 k3 k4 k5 k6
  obtain ⟨w1, w2, w3⟩ := k2.2.2.2.2.1 i (by omega)
  have k5 : s1.1 31 = s.1 31 + 1 := k5
  have k6 : s1.1 32 = s.1 32 := k6
  have hE : n_E i (s.1 32) z s D H O s1 D1 H1 O1 := n_E_tr E0 k2 (by omega) (Int.le_refl _) (Nat.le_refl _)
  have c1 := n_ch_old hc hE.1
  have e41 : s1.2 41 x.toNat = s.2 41 x.toNat := (n_cl (x := x) hF hc (by simp) hf hH hE.1).2.2.2.2
  have hc2 : n_ch s1 O1 (s.2 41 x.toNat) f xs := ⟨by rw [← e41]; exact c1.1.2.2.2.2.2.2, fun y hy => c1.2 y (by simp [hy])⟩
  have h17 := hE.1.1
  have hHf := (hE.1.2.2.1 f.toNat (by omega)).2.2
  refine n_many (i := i) (v := s.1 32) hL hd IH m1 xs s1 D1 H1 O1 z1 (s.2 41 x.toNat) k1 (by rw [k4]; omega) (by rw [w1]; exact u2) (by rw [w2]; exact u3) hc2 ⟨hf.1, by omega⟩ (by rw [hHf]; exact hH) (by have := hE.2.1; omega) k6 (by omega) (n_SB_E hs hE k6 (by omega)) ?_
  intro s2 D2 H2 O2 z2 j1 j2 j3 j4 j5 j6
  exact K s2 D2 H2 O2 z2 j1 (n_E_tr hE j2 (Int.le_refl _) (by omega) (by omega)) (by omega) j4 (by omega) (by omega)
end N43
