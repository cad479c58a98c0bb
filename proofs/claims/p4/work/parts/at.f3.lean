/-! THE LINKER FILLS THE IMAGE; link -/
section F3
variable {X : Nat → mm_O} {Z : Nat → List Int32} {d n : Nat} {s s0 s' S t : cS} {a b a2 b2 i u f c p6 p7 : Nat} {v k j k0 j0 x bg : Int}
theorem c_ot (h : c_By s a2 b2) (hm : c_BM s a b s') (ha : a2 ≠ a) (hab : c_By s a b) : c_By s' a2 b2 ∧ s'.1 a2 1 = s.1 a2 1 := by
  obtain ⟨h1, h2, h3, h4, h5⟩ := h
  obtain ⟨m1, m2, m3, m4⟩ := hm
  have hne : a2 ≠ b := fun e => by
    have := hab.2.2.1
    rw [← e, h1] at this
    exact absurd this (by decide)
  have e := m2 a2 1 hne (fun q => ha q.1)
  exact ⟨⟨by rw [c_T2 m1]; exact h1, by rw [m1]; exact h2, by rw [c_T2 m1]; exact h3, by rw [c_N2 m1, e]; exact h4, by rw [c_N2 m1]; exact h5⟩, e⟩
theorem c_l79w (hd : 6 ≤ d) (hne : a2 ≠ a) : ∀ (q : Nat) (t : cS) (k : Int), c_BM s a b t → c_By t a b → c_By t a2 b2 → c_rg t → 0 ≤ k → k + q = t.1 a2 1 → CP X Z (d + 1) 79 2 [some (kQ (some a)), some (kQ (some a2)), some (kI k)] [] t (fun r s' => r = .inl none ∧ c_BM s a b s') := by
  intro q
  induction q with
  | zero =>
    intro t k hm h1 h2 hg hk0 hk
    have := h2.2.2.2.1
    have := h2.2.2.2.2
    refine c_at nb79_2 (by omega) rfl ⟨a2, rfl, h2.1, ⟨by omega, by omega⟩, hg _ _, fun _ => c_at nb79_25 (by omega) rfl ⟨rfl, rfl, hm⟩, fun z => by omega⟩
  | succ q ih =>
    intro t k hm h1 h2 hg hk0 hk
    have := h2.2.2.2.1
    have := h2.2.2.2.2
    refine c_at nb79_2 (by omega) rfl ⟨a2, rfl, h2.1, ⟨by omega, by omega⟩, hg _ _, fun z => by omega, fun _ => ?_⟩
    refine c_iv (a := a2) (vs := [kQ (some a2), kI k]) (r := [kQ (some a)]) nn16 (by simp) rfl nc16 h2.1 (by decide) (cg16 hd h2 hg ⟨by omega, by omega⟩) (fun r s' hr => ?_)
    rw [hr.1, hr.2]
    generalize (if 0 ≤ k ∧ k < t.1 a2 1 then t.1 b2 k.toNat else -1) = v
    refine c_iv (a := a) (vs := [kQ (some a), kI v]) (r := []) nn11 (by simp) rfl nc11 h1.1 (by decide) (cg11 hd h1) (fun r s' hr => ?_)
    rw [hr.1, hr.2]
    have m1 := c_put_BM (v := v) h1 hg
    obtain ⟨o1, o2⟩ := c_ot h2 m1 hne h1
    exact ih (c_put t a b v) (k + 1) (c_BM_tr hm m1) (c_BM_By h1 m1) o1 m1.2.2.1 (by omega) (by rw [o2]; omega)
theorem cg79w (hd : 6 ≤ d) (hne : a2 ≠ a) (h1 : c_By s a b) (h2 : c_By s a2 b2) (hg : c_rg s) : CG X Z (d + 1) 79 [kQ (some a), kQ (some a2)] s (fun r s' => r = .inl none ∧ c_BM s a b s') := by
  have := h2.2.2.2.1
  refine c_G_of (L := [some (kQ (some a)), some (kQ (some a2)), none]) (by rw [nl79]; exact Nat.le_of_ble_eq_true rfl) (by rw [nl79]; rfl) ?_
  refine c_at nb79_0 (by omega) rfl ?_
  exact c_l79w hd hne (s.1 a2 1).toNat s 0 (c_BM_rf h1 hg) h1 h2 hg (by omega) (by omega)
/-- how long the machine's steps are -/
def c_Z0 (Z : Nat → List Int32) : Prop := (Z 0).length = 15 ∧ ∀ i : Nat, i < 15 → 1 ≤ ((Z 0).getD i 0).toInt ∧ ((Z 0).getD i 0).toInt ≤ 4
theorem cg95 (hd : 6 ≤ d) (hZ : c_Z0 Z) (hk : n_rng k) : CG X Z d 95 [kI k] s (fun r s' => (∃ x, r = .inl (some (kI x)) ∧ 1 ≤ x ∧ x ≤ 4) ∧ s' = s) := by
  have h21 : ∀ y : Int, (1 ≤ y ∧ y ≤ 4) → CP X Z d 95 21 [some (kI k)] [kI y] s (fun r s' => (∃ x, r = .inl (some (kI x)) ∧ 1 ≤ x ∧ x ≤ 4) ∧ s' = s) := fun y hy => c_at nb95_21 hd rfl ⟨⟨y, rfl, hy⟩, rfl⟩
  have h20 : CP X Z d 95 20 [some (kI k)] [] s (fun r s' => (∃ x, r = .inl (some (kI x)) ∧ 1 ≤ x ∧ x ≤ 4) ∧ s' = s) := c_at nb95_20 hd rfl (h21 1 (by decide))
  have hl := hZ.1
  refine c_G_of (L := [some (kI k)]) (by rw [nl95]; exact Nat.le_of_ble_eq_true rfl) (by rw [nl95]; rfl) ?_
  refine c_at nb95_0 hd rfl ⟨hk, fun _ => h20, fun z => ⟨by decide, hk, ⟨by omega, by omega⟩, fun _ => h20, fun z2 => ⟨by decide, ⟨?_, ?_, ?_⟩, h21 _ (hZ.2 k.toNat ?_)⟩⟩⟩
  all_goals (have z : ¬ k < 0 := z)
  all_goals (have z2 : ¬ ((Z 0).length : Int) ≤ k := z2)
  all_goals omega
/-- the jumps are moved -/
theorem c_l93 (hd : 6 ≤ d) (hZ : c_Z0 Z) (hc : c ≠ 20) : ∀ (m : Nat) (t : cS) (j : Int) (x5 : Option cV), c_BM s 20 21 t → c_By t 20 21 → c_By t c b → c_rg t → (0 ≤ j ∧ j ≤ t.1 c 1 + 4) → t.1 c 1 ≤ j + m → CP X Z (d + 1) 93 3 [some (kQ (some 16)), some (kQ (some c)), some (kQ (some 20)), some (kI bg), some (kI j), x5] [] t (fun r s' => r = .inl none ∧ c_BM s 20 21 s') := by
  intro m
  induction m with
  | zero =>
    intro t j x5 hm h1 h2 hg hj hk
    have := h2.2.2.2.1
    have := h2.2.2.2.2
    exact c_at nb93_3 (by omega) rfl ⟨c, rfl, h2.1, ⟨by omega, by omega⟩, hg _ _, fun _ => c_at nb93_71 (by omega) rfl ⟨rfl, rfl, hm⟩, fun z => absurd (show t.1 c 1 ≤ j by omega) z⟩
  | succ m ih =>
    intro t j x5 hm h1 h2 hg hj hk
    have w1 := h2.2.2.2.1
    have w2 := h2.2.2.2.2
    refine c_at nb93_3 (by omega) rfl ⟨c, rfl, h2.1, ⟨by omega, by omega⟩, hg _ _, fun _ => c_at nb93_71 (by omega) rfl ⟨rfl, rfl, hm⟩, fun z => ?_⟩
    have z : ¬ t.1 c 1 ≤ j := z
    refine c_iv (a := c) (vs := [kQ (some c), kI j]) (r := []) nn16 (by simp) rfl nc16 h2.1 (by decide) (cg16w hd h2 hg) (fun r t1 hr => ?_)
    obtain ⟨⟨op, eo, ho⟩, es⟩ := hr
    rw [eo, es]
    have h54 : ∀ t2, c_BM s 20 21 t2 → c_By t2 20 21 → c_By t2 c b → c_rg t2 → t2.1 c 1 = t.1 c 1 → CP X Z (d + 1) 93 54 [some (kQ (some 16)), some (kQ (some c)), some (kQ (some 20)), some (kI bg), some (kI j), some (kI op)] [] t2 (fun r s' => r = .inl none ∧ c_BM s 20 21 s') := by
      intro t2 m2 b1 b2 g2 e2
      refine c_at nb93_54 (by omega) rfl ?_
      refine c_iv (a := c) (vs := [kQ (some c), kI j]) (r := [kI j]) nn16 (by simp) rfl nc16 b2.1 (by decide) (cg16w hd b2 g2) (fun r t1 hr => ?_)
      obtain ⟨⟨y, ey, hy⟩, es⟩ := hr
      rw [ey, es]
      refine c_is (vs := [kI y]) (r := [kI j]) nn95 (by simp) (cg95 hd hZ hy) (fun r t1 hr => ?_)
      obtain ⟨⟨q, eq, hq⟩, es⟩ := hr
      rw [eq, es]
      exact ih t2 (j + q) _ m2 b1 b2 g2 (by omega) (by omega)
    have h34 : CP X Z (d + 1) 93 34 [some (kQ (some 16)), some (kQ (some c)), some (kQ (some 20)), some (kI bg), some (kI j), some (kI op)] [] t (fun r s' => r = .inl none ∧ c_BM s 20 21 s') := by
      refine c_at nb93_34 (by omega) rfl ?_
      refine c_iv (a := c) (vs := [kQ (some c), kI (j + 1)]) (r := [kI bg, kI (bg + j + 1), kQ (some 20)]) nn94 (by simp) rfl nc94 h2.1 (by decide) (cg94w hd h2 hg) (fun r t1 hr => ?_)
      obtain ⟨⟨y, ey, hy⟩, es⟩ := hr
      rw [ey, es]
      refine c_iv (a := 20) (vs := [kQ (some 20), kI (bg + j + 1), kI (bg + y)]) (r := []) nn71 (by simp) rfl nc71 h1.1 (by decide) (cg71w hd h1 hg) (fun r t1 hr => ?_)
      obtain ⟨er, m1, -⟩ := hr
      rw [er]
      obtain ⟨o1, o2⟩ := c_ot h2 m1 hc h1
      exact h54 t1 (c_BM_tr hm m1) (c_BM_By h1 m1) o1 m1.2.2.1 o2
    exact ⟨ho, ⟨by decide, by decide⟩, fun _ => h34, fun _ => ⟨ho, ⟨by decide, by decide⟩, fun _ => h54 t hm h1 h2 hg rfl, fun _ => h34⟩⟩
theorem cg93 (hd : 6 ≤ d) (hZ : c_Z0 Z) (hc : c ≠ 20) (h1 : c_By s 20 21) (h2 : c_By s c b) (hg : c_rg s) : CG X Z (d + 1) 93 [kQ (some 16), kQ (some c), kQ (some 20), kI bg] s (fun r s' => r = .inl none ∧ c_BM s 20 21 s') := by
  have := h2.2.2.2.1
  refine c_G_of (L := [some (kQ (some 16)), some (kQ (some c)), some (kQ (some 20)), some (kI bg), none, none]) (by rw [nl93]; exact Nat.le_of_ble_eq_true rfl) (by rw [nl93]; rfl) ?_
  exact c_at nb93_0 (by omega) rfl (c_l93 hd hZ hc (s.1 c 1).toNat s 0 none (c_BM_rf h1 hg) h1 h2 hg (by omega) (by omega))
/-- the calls are set -/
theorem c_l96 (hd : 6 ≤ d) (h : c_ok s) (hu : c_un s u) (e7 : s.2.1 u 7 = some p7) : ∀ (m : Nat) (t : cS) (j : Int) (x5 : Option cV), c_BM s 20 21 t → 0 ≤ j → j + m = cN s p7 → CP X Z (d + 1) 96 3 [some (kQ (some 16)), some (kQ (some u)), some (kQ (some 20)), some (kI bg), some (kI j), x5] [] t (fun r s' => r = .inl none ∧ c_BM s 20 21 s') := by
  have hI : c_By s 20 21 := c_ok_By h (p := (20, 0, 21)) (by decide) rfl (by decide)
  have h65 : ∀ (t : cS) (j : Int) (x5 : Option cV), c_BM s 20 21 t → CP X Z (d + 1) 96 65 [some (kQ (some 16)), some (kQ (some u)), some (kQ (some 20)), some (kI bg), some (kI j), x5] [] t (fun r s' => r = .inl none ∧ c_BM s 20 21 s') := fun t j x5 ht => c_at nb96_65 (by omega) rfl ⟨rfl, rfl, ht⟩
  intro m
  induction m with
  | zero =>
    intro t j x5 hm hj hk
    obtain ⟨k1, k2⟩ := c_ok_BM h hI hm
    have ut := c_un_E k2 hu
    obtain ⟨c, b, p6, q7, y1, y2, hB, ⟨z1, z2, z3⟩, ⟨w1, w2, w3⟩⟩ := c_uat k1 ut
    have eq : q7 = p7 := by
      rw [hm.1, e7] at w1
      exact (Option.some.inj w1).symm
    have en : cN t p7 = cN s p7 := c_N2 hm.1
    rw [eq] at w1 w2 w3
    exact c_at nb96_3 (by omega) rfl ⟨u, rfl, ut.1, p7, w1, Or.inl w2, ⟨by omega, by omega⟩, ⟨by omega, by omega⟩, fun _ => h65 t j x5 hm, fun z => absurd (show (cN t p7 : Int) ≤ j by omega) z⟩
  | succ m ih =>
    intro t j x5 hm hj hk
    obtain ⟨k1, k2⟩ := c_ok_BM h hI hm
    have ut := c_un_E k2 hu
    obtain ⟨c, b, p6, q7, y1, y2, hB, ⟨z1, z2, z3⟩, ⟨w1, w2, w3⟩⟩ := c_uat k1 ut
    have eq : q7 = p7 := by
      rw [hm.1, e7] at w1
      exact (Option.some.inj w1).symm
    have en : cN t p7 = cN s p7 := c_N2 hm.1
    rw [eq] at w1 w2 w3
    have t16 := c_t k1 (16, 4) (by decide)
    have hIt := c_BM_By hI hm
    refine c_at nb96_3 (by omega) rfl ⟨u, rfl, ut.1, p7, w1, Or.inl w2, ⟨by omega, by omega⟩, ⟨by omega, by omega⟩, fun _ => h65 t j x5 hm, fun _ => ⟨u, rfl, ut.1, p6, z1, Or.inl z2, ⟨by omega, by omega⟩, ⟨by omega, by omega⟩, fun _ => h65 t j x5 hm, fun z6 => ⟨16, rfl, t16, u, rfl, ut.1, p7, w1, w2, ⟨by omega, by omega, by omega⟩, ?_⟩⟩⟩
    have z6 : ¬ (cN t p6 : Int) ≤ j := z6
    show wc Z _ _ _ _ _ [kI (t.1 p7 j.toNat), kI 1, kQ (t.2.1 16 0)] t
    rw [show t.2.1 16 0 = some 5 from c_r k1 (16, 0, 5) (by decide)]
    refine c_iv (a := 5) (vs := [kQ (some 5), kI 1, kI (t.1 p7 j.toNat)]) (r := []) nn59 (by simp) rfl nc59 (c_t k1 (5, 8) (by decide)) (by decide) (cg59 hd k1 ⟨by decide, by decide⟩ (k1.1 _ _)) (fun r t1 hr => ?_)
    obtain ⟨⟨o, e, ho⟩, es⟩ := hr
    rw [e, es]
    refine ⟨u, rfl, ut.1, p6, z1, z2, ⟨by omega, by omega, by omega⟩, ?_⟩
    refine c_iv (a := 16) (vs := [kQ (some 16), kQ o]) (r := [kI (bg + t.1 p6 j.toNat), kQ (some 20)]) nn91 (by simp) rfl nc91 t16 (by decide) (cg91 hd k1 o) (fun r t1 hr => ?_)
    obtain ⟨⟨g, eg, hg⟩, es⟩ := hr
    rw [eg, es]
    refine c_iv (a := 20) (vs := [kQ (some 20), kI (bg + t.1 p6 j.toNat), kI g]) (r := []) nn71 (by simp) rfl nc71 hIt.1 (by decide) (cg71w hd hIt k1.1) (fun r t1 hr => ?_)
    obtain ⟨er, m1, -⟩ := hr
    rw [er]
    exact ih t1 (j + 1) _ (c_BM_tr hm m1) (by omega) (by omega)
theorem cg96 (hd : 6 ≤ d) (h : c_ok s) (hu : c_un s u) : CG X Z (d + 1) 96 [kQ (some 16), kQ (some u), kQ (some 20), kI bg] s (fun r s' => r = .inl none ∧ c_BM s 20 21 s') := by
  have hI : c_By s 20 21 := c_ok_By h (p := (20, 0, 21)) (by decide) rfl (by decide)
  obtain ⟨c, b, p6, p7, -, -, -, -, ⟨w1, w2, w3⟩⟩ := c_uat h hu
  refine c_G_of (L := [some (kQ (some 16)), some (kQ (some u)), some (kQ (some 20)), some (kI bg), none, none]) (by rw [nl96]; exact Nat.le_of_ble_eq_true rfl) (by rw [nl96]; rfl) ?_
  exact c_at nb96_0 (by omega) rfl (c_l96 hd h hu w1 (cN s p7) s 0 none (c_BM_rf hI h.1) (by omega) (by omega))
/-- fill -/
theorem c_l92 (hd : 6 ≤ d) (hZ : c_Z0 Z) (h : c_ok s) : ∀ (m : Nat) (t : cS) (j : Int), c_BM s 20 21 t → 0 ≤ j → j + m = s.1 16 3 → CP X Z (d + 2) 92 6 [some (kQ (some 16)), some (kQ (some 20)), some (kI j)] [] t (fun r s' => r = .inl none ∧ c_BM s 20 21 s') := by
  have hI : c_By s 20 21 := c_ok_By h (p := (20, 0, 21)) (by decide) rfl (by decide)
  have hc := h.2.2.2.1.2.2.2.2.2.1
  have e3 : ∀ t, c_BM s 20 21 t → t.1 16 3 = s.1 16 3 := fun t ht => ht.2.1 16 3 (by decide) (by decide)
  intro m
  induction m with
  | zero =>
    intro t j hm hj hk
    obtain ⟨k1, k2⟩ := c_ok_BM h hI hm
    have e := e3 t hm
    exact c_at nb92_6 (by omega) rfl ⟨16, rfl, c_t k1 (16, 4) (by decide), ⟨by omega, by omega⟩, k1.1 _ _, fun _ => c_at nb92_70 (by omega) rfl ⟨rfl, rfl, hm⟩, fun z => absurd (show t.1 16 3 ≤ j by omega) z⟩
  | succ m ih =>
    intro t j hm hj hk
    obtain ⟨k1, k2⟩ := c_ok_BM h hI hm
    have e := e3 t hm
    have t16 := c_t k1 (16, 4) (by decide)
    have t17 := c_t k1 (17, 31) (by decide)
    have t18 := c_t k1 (18, 20) (by decide)
    have l17 : cN t 17 = 16 := c_l k1 (17, 16) (by decide)
    have l18 : cN t 18 = 16 := c_l k1 (18, 16) (by decide)
    have e1 : t.2.1 16 1 = some 17 := c_r k1 (16, 1, 17) (by decide)
    have e2 : t.2.1 16 2 = some 18 := c_r k1 (16, 2, 18) (by decide)
    obtain ⟨w, ew⟩ : ∃ w, t.2.1 17 j.toNat = some w := Option.ne_none_iff_exists'.mp (k1.2.2.2.1.2.2.2.2.2.2 j.toNat (by omega))
    have hw := (k1.2.2.1 17).2.2.2.2.2.2 t17 _ w ew
    obtain ⟨c, b, p6, q7, y1, y2, hB, -, -⟩ := c_uat k1 hw
    have hIt := c_BM_By hI hm
    have c20 : c ≠ 20 := by omega
    refine c_at nb92_6 (by omega) rfl ⟨16, rfl, t16, ⟨by omega, by omega⟩, k1.1 _ _, fun z => absurd (show t.1 16 3 ≤ j from z) (by omega), fun _ => ⟨16, rfl, t16, 17, 1, e1, t17, by decide, ⟨by omega, by rw [l17]; omega, by omega⟩, w, ew, hw.1, ?_⟩⟩
    show wc Z _ _ _ _ _ [kQ (t.2.1 w 4), kQ (some 20)] t
    rw [y1]
    refine c_iv (d := d + 1) (a := 20) (vs := [kQ (some 20), kQ (some c)]) (r := []) nn79 (by simp) rfl nc79 hIt.1 (by decide) (cg79w hd c20 hIt hB k1.1) (fun r t1 hr => ?_)
    obtain ⟨er, m1⟩ := hr
    rw [er]
    obtain ⟨o1, o2⟩ := c_ot hB m1 c20 hIt
    have r1 := m1.1
    have i1 := c_BM_By hIt m1
    refine ⟨16, rfl, by rw [c_T2 r1]; exact t16, 17, 1, by rw [r1]; exact e1, by rw [c_T2 r1]; exact t17, by decide, ⟨by omega, by rw [c_N2 r1, l17]; omega, by omega⟩, w, by rw [r1]; exact ew, by rw [c_T2 r1]; exact hw.1, 16, rfl, by rw [c_T2 r1]; exact t16, 18, by rw [r1]; exact e2, by rw [c_T2 r1]; exact t18, ⟨by omega, by rw [c_N2 r1, l18]; omega, by omega⟩, ?_⟩
    show wc Z _ _ _ _ _ [kI (t1.1 18 j.toNat), kQ (some 20), kQ (t1.2.1 w 4), kQ (some 16)] t1
    rw [show t1.2.1 w 4 = some c from by rw [r1]; exact y1]
    refine c_iv (d := d + 1) (a := 16) (vs := [kQ (some 16), kQ (some c), kQ (some 20), kI (t1.1 18 j.toNat)]) (r := []) nn93 (by simp) rfl nc93 (by rw [c_T2 r1]; exact t16) (by decide) (cg93 hd hZ c20 i1 o1 m1.2.2.1) (fun r t2 hr => ?_)
    obtain ⟨er, m2⟩ := hr
    rw [er]
    have r2 : t2.2 = t.2 := m2.1.trans r1
    have mm := c_BM_tr hm (c_BM_tr m1 m2)
    obtain ⟨k3, k4⟩ := c_ok_BM h hI mm
    refine ⟨16, rfl, by rw [c_T2 r2]; exact t16, 17, 1, by rw [r2]; exact e1, by rw [c_T2 r2]; exact t17, by decide, ⟨by omega, by rw [c_N2 r2, l17]; omega, by omega⟩, 16, rfl, by rw [c_T2 r2]; exact t16, 18, by rw [r2]; exact e2, by rw [c_T2 r2]; exact t18, ⟨by omega, by rw [c_N2 r2, l18]; omega, by omega⟩, ?_⟩
    show wc Z _ _ _ _ _ [kI (t2.1 18 j.toNat), kQ (some 20), kQ (t2.2.1 17 j.toNat), kQ (some 16)] t2
    rw [show t2.2.1 17 j.toNat = some w from by rw [r2]; exact ew]
    have hw2 : c_un t2 w := ⟨by rw [c_T2 r2]; exact hw.1, by rw [r2]; exact hw.2⟩
    refine c_iv (d := d + 1) (a := 16) (vs := [kQ (some 16), kQ (some w), kQ (some 20), kI (t2.1 18 j.toNat)]) (r := []) nn96 (by simp) rfl nc96 (by rw [c_T2 r2]; exact t16) (by decide) (cg96 hd k3 hw2) (fun r t3 hr => ?_)
    obtain ⟨er, m3⟩ := hr
    rw [er]
    exact ih t3 (j + 1) (c_BM_tr mm m3) (by omega) (by omega)
theorem cg92 (hd : 6 ≤ d) (hZ : c_Z0 Z) (h : c_ok s) : CG X Z (d + 2) 92 [kQ (some 16), kQ (some 20)] s (fun r s' => r = .inl none ∧ c_BM s 20 21 s') := by
  have hI : c_By s 20 21 := c_ok_By h (p := (20, 0, 21)) (by decide) rfl (by decide)
  have hc := h.2.2.2.1.2.2.2.2.2.1
  refine c_G_of (L := [some (kQ (some 16)), some (kQ (some 20)), none]) (by rw [nl92]; exact Nat.le_of_ble_eq_true rfl) (by rw [nl92]; rfl) ?_
  refine c_at nb92_0 (by omega) rfl ?_
  refine c_iv (d := d + 1) (a := 20) (vs := [kQ (some 20)]) (r := []) nn43 (by simp) rfl nc43 hI.1 (by decide) (cg43 (by omega) hI.1) (fun r s1 hr => ?_)
  rw [hr.1, hr.2]
  exact c_l92 hd hZ h (s.1 16 3).toNat _ 0 (c_emp_BM hI h.1) (by omega) (by omega)
theorem c_RP_07 (h : c_ok s) : c_RP s (c_uA s 0 7 (c_w x)) 0 0 := by
  obtain ⟨a1, a2, a3, a4, a5, a6, a7⟩ := h.2.2.2.1
  refine ⟨c_ok_u h (c_w_rg _) (c_t h (0, 0) (by decide)) (by decide) ⟨a1, a2, a3, a4, a5, a6, a7⟩, c_E_2 rfl, ⟨c_uA_ne (by decide), fun i => c_uA_ne (by decide), ?_⟩, c_bd0⟩
  show n_updA s.1 0 7 (c_w x) 0 6 = _
  rw [n_ua_eq, if_neg (by decide)]
/-- link: it throws, or the machine begins -/
theorem cg87 (hd : 6 ≤ d) (hZ : c_Z0 Z) (h : c_ok s) (hq : 1 ≤ (cq s).1 ∧ 6 ≤ (cq s).2) : CG X Z (d + 3) 87 [kQ (some 0)] s (fun r s' => ((∃ x, r = .inl (some (kI x))) ∨ r = .inr 2) ∧ c_RP s s' 1 6) := by
  have t0 := c_t h (0, 0) (by decide)
  refine c_G_of (L := [some (kQ (some 0))]) (by rw [nl87]; exact Nat.le_of_ble_eq_true rfl) (by rw [nl87]; rfl) ?_
  refine c_at nb87_0 (by omega) rfl ⟨0, rfl, t0, ?_⟩
  show wc Z _ _ _ _ _ [kQ (s.2.1 0 4), kQ (some 0)] s
  rw [show s.2.1 0 4 = some 16 from c_r h (0, 4, 16) (by decide)]
  refine c_iv (d := d + 2) (a := 16) (vs := [kQ (some 16)]) (r := [kQ (some 0)]) nn88 (by simp) rfl nc88 (c_t h (16, 4) (by decide)) (by decide) (cg88 hd h) (fun r s1 hr => ?_)
  obtain ⟨⟨x, ex, hx⟩, hL⟩ := hr
  rw [ex]
  have q1 := c_LK_RP hL
  have q2 := c_RP_tr q1 (c_RP_07 (x := x) q1.1)
  refine ⟨0, rfl, c_t hL.1 (0, 0) (by decide), ?_⟩
  generalize c_uA s1 0 7 (c_w x) = S at *
  have qb := q2.2.2.2
  unfold c_bd at qb
  have T0 := c_t q2.1 (0, 0) (by decide)
  have hm := c_ok_mf q2.1
  refine ⟨0, rfl, T0, q2.1.1 _ _, fun _ => ?_, fun _ => ⟨by simp, by omega, by omega, Or.inr rfl, c_RP_tr q2 (c_RP_q q2.1)⟩⟩
  have e5 : S.2.1 0 5 = some 19 := c_r q2.1 (0, 5, 19) (by decide)
  refine c_at nb87_28 (by omega) rfl ⟨0, rfl, T0, 0, rfl, T0, 19, e5, hm.1.1, ?_⟩
  show wc Z _ _ _ _ _ [kQ (S.2.1 19 0), kQ (S.2.1 0 4)] S
  rw [hm.1.2.1, show S.2.1 0 4 = some 16 from c_r q2.1 (0, 4, 16) (by decide)]
  refine c_iv (d := d + 2) (a := 16) (vs := [kQ (some 16), kQ (some 20)]) (r := []) nn92 (by simp) rfl nc92 (c_t q2.1 (16, 4) (by decide)) (by decide) (cg92 hd hZ q2.1) (fun r t1 hr => ?_)
  obtain ⟨er, m1⟩ := hr
  rw [er]
  obtain ⟨k1, k2⟩ := c_ok_BM q2.1 hm.1.2.2 m1
  have q3 : c_RP S t1 0 0 := ⟨k1, k2, ⟨m1.2.1 1 1 (by decide) (by decide), fun i => m1.2.1 2 i (by decide) (by omega), m1.2.1 0 6 (by decide) (by decide)⟩, by unfold c_bd cq cn; rw [m1.1]; omega⟩
  have hm1 := c_ok_mf k1
  refine ⟨0, rfl, c_t k1 (0, 0) (by decide), ?_⟩
  show wc Z _ _ _ _ _ [kQ (t1.2.1 0 5)] t1
  rw [show t1.2.1 0 5 = some 19 from c_r k1 (0, 5, 19) (by decide)]
  refine c_iv (d := d + 2) (a := 19) (vs := [kQ (some 19)]) (r := []) nn22 (by simp) rfl nc22 hm1.1.1 (by decide) (cg22 (by omega) hm1.1.1 k1.1) (fun r t2 hr => ?_)
  obtain ⟨er, m2⟩ := hr
  rw [er]
  obtain ⟨k3, k4, k5⟩ := c_ok_MM k1 m2
  have q4 : c_RP t1 t2 0 0 := ⟨k3, k4, k5, by unfold c_bd cq cn; rw [m2.1]; omega⟩
  have hm2 := c_ok_mf k3
  exact ⟨0, rfl, c_t k3 (0, 0) (by decide), 19, c_r k3 (0, 5, 19) (by decide), hm2.1.1, 20, hm2.1.2.1, hm2.1.2.2.1, Or.inl ⟨_, rfl⟩, c_RP_le (c_RP_tr q2 (c_RP_tr q3 q4)) (by omega) (by omega)⟩
end F3
