/-! THE FILE -/
section E8
variable {X : Nat → mm_O} {Z : Nat → List Int32} {d n : Nat} {s s' S t : cS} {a b i u f : Nat} {k : Int}
def c_nF (s : cS) (r : cA) (s' : cS) : Prop := (∃ p, r = .inl (some (kQ (some p))) ∧ cT s' p = 1 ∧ s'.2.1 p 0 ≠ none ∧ 25 ≤ p) ∧ c_RP s s' 2 562
/-- what stands while the file is written -/
theorem c_82w (h : c_ok s) (hu : c_un s u) (m : c_BM s 10 11 t) : (c_ok t ∧ c_RP s t 0 0) ∧ (cT t 7 = 2 ∧ t.2.1 7 2 = some 10 ∧ cT t 10 = 1 ∧ c_By t 10 11) ∧ (t.2.1 7 1 = some 8 ∧ cT t 8 = 1 ∧ c_By t 8 9) ∧ (cT t u = 9 ∧ ∃ p, t.2.1 u 2 = some p ∧ cT t p = 20) := by
  have hb : c_By s 10 11 := c_ok_By h (p := (10, 0, 11)) (by decide) rfl (by decide)
  obtain ⟨g1, g2⟩ := c_ok_BM h hb m
  have hu2 := c_un_E g2 hu
  refine ⟨⟨g1, g1, g2, ⟨m.2.1 1 1 (by decide) (fun e => absurd e.1 (by decide)), fun i => m.2.1 2 i (by decide) (fun e => absurd e.1 (by decide)), m.2.1 0 6 (by decide) (fun e => absurd e.1 (by decide))⟩, by unfold c_bd cq cn; rw [m.1]; omega⟩, ⟨c_t g1 (7, 2) (by decide), c_r g1 (7, 2, 10) (by decide), c_t g1 (10, 1) (by decide), c_BM_By hb m⟩, ⟨c_r g1 (7, 1, 8) (by decide), c_t g1 (8, 1) (by decide), c_ok_By g1 (p := (8, 0, 9)) (by decide) rfl (by decide)⟩, hu2.1, (c_par g1 hu2).1⟩
theorem c_l82 (hd : 6 ≤ d) (h : c_ok s) (hu : c_un s u) (hq : 2 ≤ (cq s).1 ∧ 562 ≤ (cq s).2) : ∀ (q : Nat) (t : cS) (j : Int), c_BM s 10 11 t → 0 ≤ j → j + q = t.1 7 5 → CP X Z (d + 3) 82 79 [some (kQ (some 7)), some (kQ (some u)), some (kI j)] [] t (c_nF s) := by
  intro q
  induction q with
  | zero =>
    intro t j m hj hjq
    obtain ⟨⟨g1, g2⟩, ⟨t7, e2, t10, hB⟩, -, -⟩ := c_82w h hu m
    have h5 := g1.2.2.2.1.2.2.1
    refine c_at nb82_79 (by omega) rfl ⟨7, rfl, t7, ⟨by omega, by omega⟩, g1.1 _ _, fun _ => ?_, fun z => absurd (show t.1 7 5 ≤ j by omega) z⟩
    refine c_at nb82_119 (by omega) rfl ⟨7, rfl, t7, ?_⟩
    show wc Z _ _ _ _ _ [kQ (t.2.1 7 2)] t
    rw [e2]
    have l11 : cN t 11 = 560 := c_l g1 (11, 560) (by decide)
    have hle := hB.2.2.2.1
    rw [l11] at hle
    have hb := g2.2.2.2
    unfold c_bd at hb
    refine c_iv (d := d + 2) (a := 10) (vs := [kQ (some 10)]) (r := []) nn78 (by simp) rfl nc78 t10 (by decide) (cg78 (n := 560) hd g1 hB (by omega) ⟨by omega, by omega⟩) (fun r s' hr => ?_)
    obtain ⟨⟨p, er, hp⟩, m2, -⟩ := hr
    rw [er]
    exact ⟨⟨p, rfl, hp⟩, c_RP_le (c_RP_tr g2 m2) (by decide) (by decide)⟩
  | succ q ih =>
    intro t j m hj hjq
    obtain ⟨⟨g1, g2⟩, ⟨t7, e2, t10, hB⟩, -, -⟩ := c_82w h hu m
    have h5 := g1.2.2.2.1.2.2.1
    refine c_at nb82_79 (by omega) rfl ⟨7, rfl, t7, ⟨by omega, by omega⟩, g1.1 _ _, fun z => absurd (show t.1 7 5 ≤ j from z) (by omega), fun _ => ⟨7, rfl, t7, 7, rfl, t7, 12, c_r g1 (7, 3, 12) (by decide), c_t g1 (12, 20) (by decide), ⟨hj, by rw [c_l g1 (12, 50) (by decide)]; show j < 50; omega, by omega⟩, ?_⟩⟩
    show wc Z _ _ _ _ _ [kI (t.1 12 j.toNat), kQ (t.2.1 7 2)] t
    rw [e2]
    refine c_iv (d := d + 2) (a := 10) (vs := [kQ (some 10), kI (t.1 12 j.toNat)]) (r := []) nn84 (by simp) rfl nc84 t10 (by decide) (cg84 (d := d + 1) (by omega) hB g1.1) (fun r s1 hr => ?_)
    obtain ⟨er, b1⟩ := hr
    rw [er]
    have m1 := c_BM_tr m b1
    obtain ⟨⟨g11, g12⟩, ⟨t71, e21, t101, hB1⟩, -, -⟩ := c_82w h hu m1
    refine ⟨7, rfl, t71, 7, rfl, t71, 13, c_r g11 (7, 4, 13) (by decide), c_t g11 (13, 20) (by decide), ⟨hj, by rw [c_l g11 (13, 50) (by decide)]; show j < 50; omega, by omega⟩, ?_⟩
    show wc Z _ _ _ _ _ [kI (s1.1 13 j.toNat), kQ (s1.2.1 7 2)] s1
    rw [e21]
    refine c_iv (d := d + 2) (a := 10) (vs := [kQ (some 10), kI (s1.1 13 j.toNat)]) (r := []) nn83 (by simp) rfl nc83 t101 (by decide) (cg83 (d := d + 1) (by omega) hB1 g11.1) (fun r s2 hr => ?_)
    obtain ⟨er, b2⟩ := hr
    rw [er]
    have m2 := c_BM_tr m1 b2
    have e7 : s2.1 7 5 = t.1 7 5 := by rw [b2.2.1 7 5 (by decide) (fun e => absurd e.1 (by decide)), b1.2.1 7 5 (by decide) (fun e => absurd e.1 (by decide))]
    exact ih s2 (j + 1) m2 (by omega) (by omega)
theorem cg82 (hd : 6 ≤ d) (h : c_ok s) (hu : c_un s u) (hq : 2 ≤ (cq s).1 ∧ 562 ≤ (cq s).2) : CG X Z (d + 3) 82 [kQ (some 7), kQ (some u)] s (c_nF s) := by
  have hb : c_By s 10 11 := c_ok_By h (p := (10, 0, 11)) (by decide) rfl (by decide)
  have m0 := c_BM_rf hb h.1
  refine c_G_of (L := [some (kQ (some 7)), some (kQ (some u)), none]) (by rw [nl82]; exact Nat.le_of_ble_eq_true rfl) (by rw [nl82]; rfl) ?_
  refine c_at nb82_0 (by omega) rfl ?_
  obtain ⟨⟨g10, g20⟩, ⟨t70, e20, t100, hB0⟩, ⟨e80, t80, hC0⟩, tu0, p0, ep0, tp0⟩ := c_82w h hu m0
  refine ⟨7, rfl, t70, ?_⟩
  show wc Z _ _ _ _ _ [kQ (s.2.1 7 2)] s
  rw [e20]
  refine c_iv (d := d + 2) (a := 10) (vs := [kQ (some 10)]) (r := []) nn43 (by simp) rfl nc43 t100 (by decide) (cg43 (d := d + 2) (by omega) t100) (fun r s1 hr => ?_)
  obtain ⟨er, b0⟩ := hr
  rw [er]
  have m1 : c_BM s 10 11 s1 := by rw [b0]; exact c_BM_tr m0 (c_emp_BM hB0 g10.1)
  obtain ⟨⟨g11, g21⟩, ⟨t71, e21, t101, hB1⟩, ⟨e81, t81, hC1⟩, tu1, p1, ep1, tp1⟩ := c_82w h hu m1
  refine ⟨7, rfl, t71, u, rfl, tu1, ?_⟩
  show wc Z _ _ _ _ _ [kI (s1.1 u 0), kQ (s1.2.1 7 2)] s1
  rw [e21]
  refine c_iv (d := d + 2) (a := 10) (vs := [kQ (some 10), kI (s1.1 u 0)]) (r := []) nn11 (by simp) rfl nc11 t101 (by decide) (cg11 (d := d + 2) (by omega) hB1) (fun r s2 hr => ?_)
  obtain ⟨er, b1⟩ := hr
  rw [er]
  have m2 : c_BM s 10 11 s2 := by rw [b1]; exact c_BM_tr m1 (c_put_BM hB1 g11.1)
  obtain ⟨⟨g12, g22⟩, ⟨t72, e22, t102, hB2⟩, ⟨e82, t82, hC2⟩, tu2, p2, ep2, tp2⟩ := c_82w h hu m2
  refine ⟨7, rfl, t72, u, rfl, tu2, ?_⟩
  show wc Z _ _ _ _ _ [kI (s2.1 u 1), kQ (s2.2.1 7 2)] s2
  rw [e22]
  refine c_iv (d := d + 2) (a := 10) (vs := [kQ (some 10), kI (s2.1 u 1)]) (r := []) nn83 (by simp) rfl nc83 t102 (by decide) (cg83 (d := d + 1) (by omega) hB2 g12.1) (fun r s3 hr => ?_)
  obtain ⟨er, b2⟩ := hr
  rw [er]
  have m3 := c_BM_tr m2 b2
  obtain ⟨⟨g13, g23⟩, ⟨t73, e23, t103, hB3⟩, ⟨e83, t83, hC3⟩, tu3, p3, ep3, tp3⟩ := c_82w h hu m3
  refine ⟨7, rfl, t73, u, rfl, tu3, p3, ep3, Or.inl tp3, ?_⟩
  show wc Z _ _ _ _ _ [kI (cN s3 p3 : Int), kQ (s3.2.1 7 2)] s3
  rw [e23]
  refine c_iv (d := d + 2) (a := 10) (vs := [kQ (some 10), kI (cN s3 p3 : Int)]) (r := []) nn11 (by simp) rfl nc11 t103 (by decide) (cg11 (d := d + 2) (by omega) hB3) (fun r s4 hr => ?_)
  obtain ⟨er, b3⟩ := hr
  rw [er]
  have m4 : c_BM s 10 11 s4 := by rw [b3]; exact c_BM_tr m3 (c_put_BM hB3 g13.1)
  obtain ⟨⟨g14, g24⟩, ⟨t74, e24, t104, hB4⟩, ⟨e84, t84, hC4⟩, tu4, p4, ep4, tp4⟩ := c_82w h hu m4
  refine ⟨7, rfl, t74, 7, rfl, t74, 8, e84, t84, ?_⟩
  show wc Z _ _ _ _ _ [kI (s4.1 8 1), kQ (s4.2.1 7 2)] s4
  rw [e24]
  refine c_iv (d := d + 2) (a := 10) (vs := [kQ (some 10), kI (s4.1 8 1)]) (r := []) nn84 (by simp) rfl nc84 t104 (by decide) (cg84 (d := d + 1) (by omega) hB4 g14.1) (fun r s5 hr => ?_)
  obtain ⟨er, b4⟩ := hr
  rw [er]
  have m5 := c_BM_tr m4 b4
  obtain ⟨⟨g15, g25⟩, ⟨t75, e25, t105, hB5⟩, ⟨e85, t85, hC5⟩, tu5, p5, ep5, tp5⟩ := c_82w h hu m5
  refine ⟨7, rfl, t75, 7, rfl, t75, ?_⟩
  show wc Z _ _ _ _ _ [kQ (s5.2.1 7 1), kQ (s5.2.1 7 2)] s5
  rw [e25, e85]
  refine c_iv (d := d + 2) (a := 10) (vs := [kQ (some 10), kQ (some 8)]) (r := []) nn79 (by simp) rfl nc79 t105 (by decide) (cg79 (d := d + 1) (by omega) (by decide) hB5 hC5 g15.1) (fun r s6 hr => ?_)
  obtain ⟨er, b5⟩ := hr
  rw [er]
  have m6 := c_BM_tr m5 b5
  obtain ⟨⟨g16, g26⟩, ⟨t76, e26, t106, hB6⟩, ⟨e86, t86, hC6⟩, tu6, p6, ep6, tp6⟩ := c_82w h hu m6
  refine ⟨7, rfl, t76, 7, rfl, t76, ?_⟩
  show wc Z _ _ _ _ _ [kI (s6.1 7 5), kQ (s6.2.1 7 2)] s6
  rw [e26]
  refine c_iv (d := d + 2) (a := 10) (vs := [kQ (some 10), kI (s6.1 7 5)]) (r := []) nn11 (by simp) rfl nc11 t106 (by decide) (cg11 (d := d + 2) (by omega) hB6) (fun r s7 hr => ?_)
  obtain ⟨er, b6⟩ := hr
  rw [er]
  have m7 : c_BM s 10 11 s7 := by rw [b6]; exact c_BM_tr m6 (c_put_BM hB6 g16.1)
  obtain ⟨⟨g17, g27⟩, -, -, -⟩ := c_82w h hu m7
  have h5 := g17.2.2.2.1.2.2.1
  exact c_l82 hd h hu hq (s7.1 7 5).toNat s7 0 m7 (by decide) (by omega)
end E8
