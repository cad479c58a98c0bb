/-! A UNIT IS COMPLETED -/
section E9
variable {X : Nat → mm_O} {Z : Nat → List Int32} {d n : Nat} {s s0 s' S t : cS} {a b i u f c : Nat} {v k j k0 j0 : Int}
theorem c_u25 (h : c_ok s) (hu : cT s u = 9) : 25 ≤ u := by
  apply Classical.byContradiction
  intro hc
  have ht : ∀ u, u < 25 → ∃ p ∈ c_tgs, p.1 = u ∧ p.2 ≠ 9 := by decide
  obtain ⟨p, hp, e1, e2⟩ := ht u (by omega)
  have := c_t h p hp
  rw [e1, hu] at this
  exact e2 this.symm
theorem c_uset (h : c_ok t) (hu : c_un t u) (hj : ((i = 4 ∨ i = 5) ∧ cT t c = 1 ∧ t.2.1 c 0 ≠ none ∧ 25 ≤ c) ∨ ((i = 6 ∨ i = 7) ∧ cT t c = 20)) : c_RP t (c_uR t u i (some c)) 0 0 := by
  have h25 := c_u25 h hu.1
  obtain ⟨⟨p, p1, p2⟩, f3, ⟨c4, x1, x2, x3, x4⟩, ⟨c5, y1, y2, y3⟩, ⟨p6, z1, z2⟩, ⟨p7, w1, w2⟩⟩ := (h.2.2.1 u).2.2.2.2.1 hu.1 hu.2
  have e : ∀ l, l ≠ i → (c_uR t u i (some c)).2.1 u l = t.2.1 u l := fun l hl => by rw [c_R_at, if_neg (fun q => hl q.2)]
  have ei : (c_uR t u i (some c)).2.1 u i = some c := by rw [c_R_at, if_pos ⟨rfl, rfl⟩]
  have en : ∀ x, cT t x = 1 → (c_uR t u i (some c)).2.1 x 0 = t.2.1 x 0 := fun x hx => by
    rw [c_R_at, if_neg (fun q => by rw [q.1, hu.1] at hx; exact absurd hx (by decide))]
  have tu : cT (c_uR t u i (some c)) u = 9 := hu.1
  have nq : ∀ {l : Nat}, cT (c_uR t u i (some c)) u = l → l ≠ 9 → False := fun h1 h3 => h3 (h1.symm.trans tu)
  refine c_ok_Rd h h25 ⟨fun q => (nq q (by decide)).elim, fun q => (nq q (by decide)).elim, fun q => (nq q (by decide)).elim, fun q => (nq q (by decide)).elim, fun _ _ => ?_, fun q => (nq q (by decide)).elim, fun q => (nq q (by decide)).elim⟩ (by simp)
  rcases hj with ⟨rfl | rfl, k1, k2, k3⟩ | ⟨rfl | rfl, k1⟩
  · exact ⟨⟨p, by rw [e 2 (by decide)]; exact p1, p2⟩, by rw [e 3 (by decide)]; exact f3, ⟨c, ei, k3, k1, by rw [en c k1]; exact k2⟩, ⟨c5, by rw [e 5 (by decide)]; exact y1, y2, by rw [en c5 y2]; exact y3⟩, ⟨p6, by rw [e 6 (by decide)]; exact z1, z2⟩, ⟨p7, by rw [e 7 (by decide)]; exact w1, w2⟩⟩
  · exact ⟨⟨p, by rw [e 2 (by decide)]; exact p1, p2⟩, by rw [e 3 (by decide)]; exact f3, ⟨c4, by rw [e 4 (by decide)]; exact x1, x2, x3, by rw [en c4 x3]; exact x4⟩, ⟨c, ei, k1, by rw [en c k1]; exact k2⟩, ⟨p6, by rw [e 6 (by decide)]; exact z1, z2⟩, ⟨p7, by rw [e 7 (by decide)]; exact w1, w2⟩⟩
  · exact ⟨⟨p, by rw [e 2 (by decide)]; exact p1, p2⟩, by rw [e 3 (by decide)]; exact f3, ⟨c4, by rw [e 4 (by decide)]; exact x1, x2, x3, by rw [en c4 x3]; exact x4⟩, ⟨c5, by rw [e 5 (by decide)]; exact y1, y2, by rw [en c5 y2]; exact y3⟩, ⟨c, ei, k1⟩, ⟨p7, by rw [e 7 (by decide)]; exact w1, w2⟩⟩
  · exact ⟨⟨p, by rw [e 2 (by decide)]; exact p1, p2⟩, by rw [e 3 (by decide)]; exact f3, ⟨c4, by rw [e 4 (by decide)]; exact x1, x2, x3, by rw [en c4 x3]; exact x4⟩, ⟨c5, by rw [e 5 (by decide)]; exact y1, y2, by rw [en c5 y2]; exact y3⟩, ⟨p6, by rw [e 6 (by decide)]; exact z1, z2⟩, ⟨c, ei, k1⟩⟩
def c_MO (s : cS) (r : cA) (s' : cS) : Prop := (r = .inr 1 ∨ r = .inl none) ∧ c_RP s s' 18 900
theorem c_TX_RP (h : c_TX s s') (h9 : s.1 7 9 = 0) : c_RP s s' 13 42 := by
  obtain ⟨h1, h2, h3, h4, h5, h6⟩ := h
  refine ⟨h1, h2, h3, ?_⟩
  unfold c_bd
  omega
theorem c_TN_RP (h : c_TN k j s s') (h9 : s.1 7 9 = 0) : c_RP s s' 12 36 := by
  obtain ⟨h1, h2, h3, -, ⟨h4, h5, h6⟩, -⟩ := h
  have := h1.2.2.2.1.2.2.2.2.1
  refine ⟨h1, h2, h3, ?_⟩
  unfold c_bd
  omega
variable {is : List Instr} {L : cL} {vs : List cV} {J : Nat → cL → List cV → cS → Prop} {V W : Option cV → cS → Prop} {r : List cV} {m ci : Nat} {Q : cA → cS → Prop}
theorem c_tq (hn : mm_na m = vs.length) (hl : vs.length + r.length ≤ 12) (hr : vs.head? = some (kQ (some a))) (hci : mm_ci m = ci) (hta : cT s a = ci) (hc : ci < 10) (hN : c_TN k0 j0 s0 s) (hQ : ∀ s', c_TX s0 s' → Q (.inr 1) s') (hG : CG X Z d m vs s (c_TP s k j V)) (K : ∀ v s', V v s' → c_TN k j s s' → c_TN (k0 + k) (j0 + j) s0 s' → c_Kt Q (wc Z J (cC X Z (d + 1)) Q is L) r (.inl v) s') : wc Z J (cC X Z (d + 1)) Q (.invokevirtual m :: is) L (vs.reverse ++ r) s := by
  refine c_iv hn hl hr hci hta hc hG (fun r s' h => ?_)
  rcases h with ⟨e, h⟩ | ⟨v, e, h1, h2⟩
  · rw [e]
    exact hQ s' (c_NX hN h)
  · rw [e]
    exact K v s' h1 h2 (c_TN_tr hN h2)
/-- the end: the unit gets what was made -/
theorem c_52e (hd : 6 ≤ d) {ln : Int} {x3 : Option cV} (m : c_RP s t 12 36) (hu : c_un t u) (h5 : t.1 7 5 ≤ 49) (hq : 18 ≤ (cq s).1 ∧ 900 ≤ (cq s).2) : CP X Z (d + 4) 52 90 [some (kQ (some 7)), some (kQ (some u)), some (kI ln), x3] [] t (c_MO s) := by
  have h0 := m.1.2.2.2.1.2.2.1
  have b0 := m.2.2.2
  unfold c_bd at b0
  have hB : c_By t 8 9 := c_ok_By m.1 (p := (8, 0, 9)) (by decide) rfl (by decide)
  have l9 : cN t 9 = 200 := c_l m.1 (9, 200) (by decide)
  have hle := hB.2.2.2.1
  rw [l9] at hle
  refine c_at nb52_90 (by omega) rfl ⟨7, rfl, c_t m.1 (7, 2) (by decide), ?_⟩
  show wc Z _ _ _ _ _ [kQ (t.2.1 7 1), kQ (some u)] t
  rw [show t.2.1 7 1 = some 8 from c_r m.1 (7, 1, 8) (by decide)]
  refine c_iv (d := d + 3) (a := 8) (vs := [kQ (some 8)]) (r := [kQ (some u)]) nn78 (by simp) rfl nc78 hB.1 (by decide) (cg78 (d := d + 1) (n := 200) (by omega) m.1 hB (by omega) ⟨by omega, by omega⟩) (fun r t1 hr => ?_)
  obtain ⟨⟨p, er, p1, p2, p3⟩, m1, oth⟩ := hr
  rw [er]
  have e5 : t1.1 7 5 = t.1 7 5 := (oth 7 5 (by rw [show cT t 7 = 2 from c_t m.1 (7, 2) (by decide)]; decide)).1
  have u1 := c_un_E m1.2.1 hu
  have q1 := c_uset (i := 4) m1.1 u1 (Or.inl ⟨Or.inl rfl, p1, p2, p3⟩)
  refine ⟨u, rfl, u1.1, ?_⟩
  have e5' : (c_uR t1 u 4 (some p)).1 7 5 = t.1 7 5 := e5
  have u1' := c_un_E q1.2.1 u1
  have m1' := c_RP_tr (c_RP_tr m m1) q1
  clear q1 oth
  generalize c_uR t1 u 4 (some p) = t2 at *
  have b2 := m1'.2.2.2
  unfold c_bd at b2
  refine ⟨7, rfl, c_t m1'.1 (7, 2) (by decide), 7, rfl, c_t m1'.1 (7, 2) (by decide), ?_⟩
  show wc Z _ _ _ _ _ [kI (t2.1 7 5), kQ (t2.2.1 7 3), kQ (some u)] t2
  rw [show t2.2.1 7 3 = some 12 from c_r m1'.1 (7, 3, 12) (by decide)]
  refine c_is (d := d + 3) (vs := [kQ (some 12), kI (t2.1 7 5)]) (r := [kQ (some u)]) nn80 (by simp) (cg80 (by omega) m1'.1 (c_t m1'.1 (12, 20) (by decide)) (by rw [show cN t2 12 = 50 from c_l m1'.1 (12, 50) (by decide)]; omega) ⟨by omega, by omega⟩) (fun r t3 hr => ?_)
  obtain ⟨⟨p6, er, k1, k2⟩, m2, oth⟩ := hr
  rw [er]
  have e53 : t3.1 7 5 = t.1 7 5 := by rw [(oth 7 5 (by rw [show cT t2 7 = 2 from c_t m1'.1 (7, 2) (by decide)]; decide)).1]; exact e5'
  have u3 := c_un_E m2.2.1 u1'
  have q3 := c_uset (i := 6) m2.1 u3 (Or.inr ⟨Or.inl rfl, k1⟩)
  refine ⟨u, rfl, u3.1, ?_⟩
  have e53' : (c_uR t3 u 6 (some p6)).1 7 5 = t.1 7 5 := e53
  have u3' := c_un_E q3.2.1 u3
  have m3' := c_RP_tr (c_RP_tr m1' m2) q3
  clear q3 oth
  generalize c_uR t3 u 6 (some p6) = t4 at *
  have b4 := m3'.2.2.2
  unfold c_bd at b4
  refine ⟨7, rfl, c_t m3'.1 (7, 2) (by decide), 7, rfl, c_t m3'.1 (7, 2) (by decide), ?_⟩
  show wc Z _ _ _ _ _ [kI (t4.1 7 5), kQ (t4.2.1 7 4), kQ (some u)] t4
  rw [show t4.2.1 7 4 = some 13 from c_r m3'.1 (7, 4, 13) (by decide)]
  refine c_is (d := d + 3) (vs := [kQ (some 13), kI (t4.1 7 5)]) (r := [kQ (some u)]) nn80 (by simp) (cg80 (by omega) m3'.1 (c_t m3'.1 (13, 20) (by decide)) (by rw [show cN t4 13 = 50 from c_l m3'.1 (13, 50) (by decide)]; omega) ⟨by omega, by omega⟩) (fun r t5 hr => ?_)
  obtain ⟨⟨p7, er, k3, k4⟩, m4, -⟩ := hr
  rw [er]
  have u5 := c_un_E m4.2.1 u3'
  have q5 := c_uset (i := 7) m4.1 u5 (Or.inr ⟨Or.inr rfl, k3⟩)
  refine ⟨u, rfl, u5.1, ?_⟩
  have u5' := c_un_E q5.2.1 u5
  have m5' := c_RP_tr (c_RP_tr m3' m4) q5
  clear q5
  generalize c_uR t5 u 7 (some p7) = t6 at *
  have b6 := m5'.2.2.2
  unfold c_bd at b6
  refine c_iv (d := d + 3) (a := 7) (vs := [kQ (some 7), kQ (some u)]) (r := [kQ (some u)]) nn82 (by simp) rfl nc82 (c_t m5'.1 (7, 2) (by decide)) (by decide) (cg82 (d := d) hd m5'.1 u5' ⟨by omega, by omega⟩) (fun r t7 hr => ?_)
  obtain ⟨⟨p8, er, w1, w2, w3⟩, m6⟩ := hr
  rw [er]
  have u7 := c_un_E m6.2.1 u5'
  have q7 := c_uset (i := 5) m6.1 u7 (Or.inl ⟨Or.inr rfl, w1, w2, w3⟩)
  exact ⟨u, rfl, u7.1, rfl, Or.inr rfl, c_RP_le (c_RP_tr (c_RP_tr m5' m6) q7) (by omega) (by omega)⟩
theorem c_T_BM0 (h : c_ok s) : c_RP s (c_uA s 8 1 0) 0 0 := by
  have hB : c_By s 8 9 := c_ok_By h (p := (8, 0, 9)) (by decide) rfl (by decide)
  have hm := c_emp_BM hB h.1
  obtain ⟨g1, g2⟩ := c_ok_BM h hB hm
  exact ⟨g1, g2, ⟨hm.2.1 1 1 (by decide) (by decide), fun i => hm.2.1 2 i (by decide) (by omega), hm.2.1 0 6 (by decide) (by decide)⟩, by unfold c_bd; exact ⟨Nat.le_refl _, Nat.le_refl _, Nat.le_refl _⟩⟩
/-- the body -/
theorem c_52b (hd : 6 ≤ d) {ln : Int} {x3 : Option cV} (m : c_RP s s0 0 0) (h9 : s0.1 7 9 = 0) (h5 : s0.1 7 5 = 0) (h1 : s0.1 8 1 = 0) (hN : c_TN k 0 s0 t) (hc : c_TC t) (hu : c_un t u) (hln : ln = k) (hq : 18 ≤ (cq s).1 ∧ 900 ≤ (cq s).2) : CP X Z (d + 205) 52 52 [some (kQ (some 7)), some (kQ (some u)), some (kI ln), x3] [] t (c_MO s) := by
  have hQ : ∀ s', c_TX s0 s' → c_MO s (.inr 1) s' := fun s' hx => ⟨Or.inl rfl, c_RP_le (c_RP_tr m (c_TX_RP hx h9)) (by omega) (by omega)⟩
  have h90 : ∀ t2, c_TN k 1 s0 t2 → c_un t2 u → CP X Z (d + 205) 52 90 [some (kQ (some 7)), some (kQ (some u)), some (kI ln), x3] [] t2 (c_MO s) := by
    intro t2 hn2 hu2
    have hB : c_By t2 8 9 := c_ok_By hn2.1 (p := (8, 0, 9)) (by decide) rfl (by decide)
    have l9 : cN t2 9 = 200 := c_l hn2.1 (9, 200) (by decide)
    have hle := hB.2.2.2.1
    rw [l9] at hle
    have hj := hn2.2.2.2.2.2.2
    exact c_52e (d := d + 201) (by omega) (c_RP_le (c_RP_tr m (c_TN_RP hn2 h9)) (by omega) (by omega)) hu2 (by omega) hq
  refine c_at nb52_52 (by omega) rfl ⟨u, rfl, hu.1, ?_⟩
  refine c_tq (d := d + 204) (a := 7) (vs := [kQ (some 7), kQ (t.2.1 u 3), kQ none, kI ln, kI 1]) (r := []) nn54 (by simp) rfl nc54 (c_t hc.1 (7, 2) (by decide)) (by decide) hN hQ (cg54 hd 100 1 (by decide) (by decide) t (t.2.1 u 3) none ln hc (c_par hc.1 hu).2 (fun b hb => by cases hb)) (fun v1 s1 e1 n1 m1 => ?_)
  rw [show v1 = none from e1]
  have c1 := c_TC_N hc n1
  have u1 := c_un_E n1.2.1 hu
  refine ⟨u, rfl, u1.1, c1.1.1 _ _, fun _ => ?_, fun _ => ?_⟩
  · refine c_at nb52_79 (by omega) rfl ?_
    refine c_tq (d := d + 204) (a := 7) (vs := [kQ (some 7), kI 13]) (r := []) nn64 (by simp) rfl nc64 (c_t c1.1 (7, 2) (by decide)) (by decide) m1 hQ (cg64 (d := d + 203) (by omega) c1) (fun v2 s2 e2 n2 m2 => ?_)
    rw [show v2 = none from e2]
    have c2 := c_TC_N c1 n2
    have u2 := c_un_E n2.2.1 u1
    refine c_tq (d := d + 204) (a := 7) (vs := [kQ (some 7), kI ln]) (r := []) nn64 (by simp) rfl nc64 (c_t c2.1 (7, 2) (by decide)) (by decide) m2 hQ (cg64 (d := d + 203) (by omega) c2) (fun v3 s3 e3 n3 m3 => ?_)
    rw [show v3 = none from e3]
    exact h90 s3 (c_TN_c m3 (by omega) (by omega)) (c_un_E n3.2.1 u2)
  · refine c_tq (d := d + 204) (a := 7) (vs := [kQ (some 7), kI 14]) (r := []) nn64 (by simp) rfl nc64 (c_t c1.1 (7, 2) (by decide)) (by decide) m1 hQ (cg64 (d := d + 203) (by omega) c1) (fun v2 s2 e2 n2 m2 => ?_)
    rw [show v2 = none from e2]
    exact h90 s2 (c_TN_c m2 (by omega) (by omega)) (c_un_E n2.2.1 u1)
theorem cg53s {x : Int} (hd : 6 ≤ d) (h : c_TC s) : CG X Z d 53 [kQ (some 7), kI v, kI x] s (c_TP s 1 0 (fun v s' => v = none ∧ s'.2 = s.2)) := by
  have t7 := c_t h.1 (7, 2) (by decide)
  have t14 := c_t h.1 (14, 20) (by decide)
  have t15 := c_t h.1 (15, 20) (by decide)
  have e6 : s.2.1 7 6 = some 14 := c_r h.1 (7, 6, 14) (by decide)
  have e7 : s.2.1 7 7 = some 15 := c_r h.1 (7, 7, 15) (by decide)
  have l14 : cN s 14 = 104 := c_l h.1 (14, 104) (by decide)
  have l15 : cN s 15 = 104 := c_l h.1 (15, 104) (by decide)
  have h8 := h.1.2.2.2.1.2.2.2.1
  refine c_G_of (L := [some (kQ (some 7)), some (kI v), some (kI x)]) (by rw [nl53]; exact Nat.le_of_ble_eq_true rfl) (by rw [nl53]; rfl) ?_
  refine c_at nb53_0 (by omega) rfl ⟨7, rfl, t7, h.1.1 _ _, ⟨by decide, by decide⟩, fun z => ?_, fun _ => ⟨by simp, c_thr0 h⟩⟩
  have q1 := c_T_row h.1 (a := 14) (i := (s.1 7 8).toNat) (x := v) (by omega)
  have d1 : (c_uA s 14 (s.1 7 8).toNat (c_w v)).1 7 8 = s.1 7 8 := c_uA_ne (by decide)
  have q2 := c_T_row q1.1 (a := 15) (i := (s.1 7 8).toNat) (x := x) (by omega)
  have d2 : (c_uA (c_uA s 14 (s.1 7 8).toNat (c_w v)) 15 (s.1 7 8).toNat (c_w x)).1 7 8 = s.1 7 8 := by
    rw [c_uA_ne (by decide)]
    exact d1
  have q3 := c_T_78 q2.1 (k := 1) (by rw [d2]; omega)
  refine c_at nb53_20 (by omega) rfl ⟨7, rfl, t7, 7, rfl, t7, 14, e6, t14, ⟨h8.1, by rw [l14]; omega, by omega⟩, ?_⟩
  generalize hS : c_uA s 14 (s.1 7 8).toNat (c_w v) = S1 at *
  have r1 : S1.2 = s.2 := by rw [← hS]; rfl
  have n1 : cN S1 15 = 104 := by rw [c_N2 r1]; exact l15
  refine ⟨7, rfl, by rw [c_T2 r1]; exact t7, 7, rfl, by rw [c_T2 r1]; exact t7, 15, by rw [r1]; exact e7, by rw [c_T2 r1]; exact t15, ⟨by rw [d1]; exact h8.1, by rw [d1, n1]; omega, by rw [d1]; omega⟩, ?_⟩
  rw [d1]
  generalize hS2 : c_uA S1 15 (s.1 7 8).toNat (c_w x) = S2 at *
  have r2 : S2.2 = s.2 := by rw [← hS2]; exact r1
  exact ⟨7, rfl, by rw [c_T2 r2]; exact t7, 7, rfl, by rw [c_T2 r2]; exact t7, rfl, Or.inr ⟨none, rfl, ⟨rfl, r2⟩, c_TN_c (c_TN_tr q1 (c_TN_tr q2 q3)) (by decide) (by decide)⟩⟩
theorem c_l52 (hd : 6 ≤ d) (m : c_RP s s0 0 0) (h9 : s0.1 7 9 = 0) (h5 : s0.1 7 5 = 0) (h1 : s0.1 8 1 = 0) (hq : 18 ≤ (cq s).1 ∧ 900 ≤ (cq s).2) {p : Nat} (hlen : cN s0 p < 99999) (tp0 : cT s0 p = 20) : ∀ (w : Nat) (t : cS) (i : Int), c_TN i 0 s0 t → c_TC t → c_un t u → t.2.1 u 2 = some p → 0 ≤ i → i + w = (cN s0 p : Int) → CP X Z (d + 205) 52 30 [some (kQ (some 7)), some (kQ (some u)), some (kI (cN s0 p : Int)), some (kI i)] [] t (c_MO s) := by
  have hQ : ∀ s', c_TX s0 s' → c_MO s (.inr 1) s' := fun s' hx => ⟨Or.inl rfl, c_RP_le (c_RP_tr m (c_TX_RP hx h9)) (by omega) (by omega)⟩
  intro w
  induction w with
  | zero =>
    intro t i hN hc hu ep hi hw
    exact c_at nb52_30 (by omega) rfl ⟨⟨by omega, by omega⟩, ⟨by omega, by omega⟩, fun _ => c_52b hd m h9 h5 h1 hN hc hu (by omega) hq, fun z => absurd (show (cN s0 p : Int) ≤ i by omega) z⟩
  | succ w ih =>
    intro t i hN hc hu ep hi hw
    have tp : cT t p = 20 := c_E_T hN.2.1 tp0 (by decide)
    have np : cN t p = cN s0 p := c_E_N hN.2.1 tp0 (by decide)
    refine c_at nb52_30 (by omega) rfl ⟨⟨by omega, by omega⟩, ⟨by omega, by omega⟩, fun z => absurd (show (cN s0 p : Int) ≤ i from z) (by omega), fun _ => ⟨u, rfl, hu.1, p, ep, tp, ⟨hi, by rw [np]; omega, by omega⟩, ?_⟩⟩
    refine c_tq (d := d + 204) (a := 7) (vs := [kQ (some 7), kI (t.1 p i.toNat), kI i]) (r := []) nn53 (by simp) rfl nc53 (c_t hc.1 (7, 2) (by decide)) (by decide) hN hQ (cg53s (by omega) hc) (fun v1 s1 e1 n1 m1 => ?_)
    rw [e1.1]
    exact ih s1 (i + 1) (c_TN_c m1 rfl (by omega)) (c_TC_N hc n1) (c_un_E n1.2.1 hu) (by rw [e1.2]; exact ep) (by omega) (by omega)
/-- complete -/
theorem cg52 (hd : 6 ≤ d) (h : c_ok s) (hu : c_un s u) (hq : 18 ≤ (cq s).1 ∧ 900 ≤ (cq s).2) (hc : cn s + (cq s).1 ≤ 1000000) : CG X Z (d + 205) 52 [kQ (some 7), kQ (some u)] s (c_MO s) := by
  obtain ⟨p, p1, p2⟩ := (c_par h hu).1
  have e0 : c_w 0 = 0 := by decide
  have r0 : n_rng 0 := ⟨by decide, by decide⟩
  have t7 := c_t h (7, 2) (by decide)
  have hB : c_By s 8 9 := c_ok_By h (p := (8, 0, 9)) (by decide) rfl (by decide)
  have hlen : cN s p < 99999 := (h.2.2.1 p).2.1 p2
  refine c_G_of (L := [some (kQ (some 7)), some (kQ (some u)), none, none]) (by rw [nl52]; exact Nat.le_of_ble_eq_true rfl) (by rw [nl52]; rfl) ?_
  refine c_at nb52_0 (by omega) rfl ⟨u, rfl, hu.1, p, p1, Or.inl p2, 7, rfl, t7, ?_⟩
  show wc Z _ _ _ _ _ [kQ (s.2.1 7 1)] s
  rw [show s.2.1 7 1 = some 8 from c_r h (7, 1, 8) (by decide)]
  refine c_iv (d := d + 204) (a := 8) (vs := [kQ (some 8)]) (r := []) nn43 (by simp) rfl nc43 hB.1 (by decide) (cg43 (by omega) hB.1) (fun r s1 hr => ?_)
  rw [hr.1, hr.2]
  have m1 := c_T_BM0 h
  have q1 := c_RP_u7 (i := 5) (x := 0) m1.1 r0 (fun _ => by decide) (fun h => absurd h (by decide)) (fun h => absurd h (by decide))
  have q2 := c_RP_u7 (i := 8) (x := 0) q1.1 r0 (fun h => absurd h (by decide)) (fun _ => by decide) (fun h => absurd h (by decide))
  have q3 := c_RP_u7 (i := 9) (x := 0) q2.1 r0 (fun h => absurd h (by decide)) (fun h => absurd h (by decide)) (fun _ => by decide)
  have m4 := c_RP_tr (c_RP_tr (c_RP_tr m1 q1) q2) q3
  refine ⟨7, rfl, t7, 7, rfl, t7, 7, rfl, t7, ?_⟩
  rw [e0]
  have f1 : (c_uA (c_uA (c_uA (c_uA s 8 1 0) 7 5 0) 7 8 0) 7 9 0).1 8 1 = 0 := rfl
  have f5 : (c_uA (c_uA (c_uA (c_uA s 8 1 0) 7 5 0) 7 8 0) 7 9 0).1 7 5 = 0 := rfl
  have f9 : (c_uA (c_uA (c_uA (c_uA s 8 1 0) 7 5 0) 7 8 0) 7 9 0).1 7 9 = 0 := rfl
  have f2 : (c_uA (c_uA (c_uA (c_uA s 8 1 0) 7 5 0) 7 8 0) 7 9 0).2 = s.2 := rfl
  generalize c_uA (c_uA (c_uA (c_uA s 8 1 0) 7 5 0) 7 8 0) 7 9 0 = S at *
  have eN : cN S p = cN s p := c_N2 f2
  have eq1 : cq S = cq s := by unfold cq; rw [f2]
  have en : cn S = cn s := by unfold cn; rw [f2]
  have hcS : c_TC S := ⟨m4.1, ⟨by rw [eq1, f9]; omega, by rw [eq1, f9]; omega⟩, by rw [en, eq1]; exact hc⟩
  have := c_l52 (X := X) (Z := Z) (u := u) hd m4 f9 f5 f1 hq (p := p) (by rw [eN]; exact hlen) (by rw [c_T2 f2]; exact p2) (cN S p) S 0 (c_TN_rf m4.1) hcS (c_un_E m4.2.1 hu) (by rw [f2]; exact p1) (by omega) (by omega)
  rw [eN] at this
  exact this
end E9
