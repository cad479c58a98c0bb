/-! THE LINKER GATHERS -/
section F2
variable {X : Nat → mm_O} {Z : Nat → List Int32} {d n : Nat} {s s0 s' S t : cS} {a b a2 b2 i u f c p6 p7 : Nat} {v k j k0 j0 x : Int}
/-- only the linker's own cells have changed -/
def c_LK (s s' : cS) : Prop := c_ok s' ∧ c_E s s' ∧ c_tx s s' ∧ s'.2.2 = s.2.2 ∧ (∀ x l, x ≠ 17 → s'.2.1 x l = s.2.1 x l)
theorem c_LK_rf (h : c_ok s) : c_LK s s := ⟨h, c_E_rf, c_tx_rf, rfl, fun _ _ _ => rfl⟩
theorem c_LK_tr (h : c_LK s s') (g : c_LK s' t) : c_LK s t := ⟨g.1, c_E_tr h.2.1 g.2.1, c_tx_tr h.2.2.1 g.2.2.1, g.2.2.2.1.trans h.2.2.2.1, fun x l hx => (g.2.2.2.2 x l hx).trans (h.2.2.2.2 x l hx)⟩
theorem c_LK_RP (h : c_LK s s') : c_RP s s' 0 0 := by
  obtain ⟨h1, h2, h3, h4, -⟩ := h
  refine ⟨h1, h2, h3, ?_⟩
  unfold c_bd cq cn
  rw [h4]
  omega
theorem c_RP_16 (h : c_ok s) (hx : n_rng x) (h3 : i = 3 → (0 ≤ x ∧ x ≤ 16) ∧ ∀ l : Nat, (l : Int) < x → s.2.1 17 l ≠ none) : c_RP s (c_uA s 16 i x) 0 0 := by
  obtain ⟨a1, a2, a3, a4, a5, a6, a7⟩ := h.2.2.2.1
  have e : (c_uA s 16 i x).1 16 3 = if 3 = i then x else s.1 16 3 := n_ua_eq
  refine ⟨c_ok_u h hx (c_t h (16, 4) (by decide)) (by decide) ⟨a1, a2, a3, a4, a5, ?_, ?_⟩, c_E_2 rfl, c_tx_u (by decide), c_bd0⟩
  · rw [e]
    split
    · rename_i q
      exact (h3 q.symm).1
    · exact a6
  · intro l hl
    rw [e] at hl
    split at hl
    · rename_i q
      exact (h3 q.symm).2 l hl
    · exact a7 l hl
theorem c_RP_18 (h : c_ok s) : c_RP s (c_uA s 18 i (c_w x)) 0 0 := by
  obtain ⟨a1, a2, a3, a4, a5, a6, a7⟩ := h.2.2.2.1
  exact ⟨c_ok_u h (c_w_rg _) (c_t h (18, 20) (by decide)) (by decide) ⟨a1, a2, a3, a4, a5, a6, a7⟩, c_E_2 rfl, c_tx_u (by decide), c_bd0⟩
/-- a complete unit's own places -/
theorem c_uat (h : c_ok s) (hu : c_un s u) : ∃ c b p6 p7, s.2.1 u 4 = some c ∧ 25 ≤ c ∧ c_By s c b ∧ (s.2.1 u 6 = some p6 ∧ cT s p6 = 20 ∧ cN s p6 < 99999) ∧ (s.2.1 u 7 = some p7 ∧ cT s p7 = 20 ∧ cN s p7 < 99999) := by
  obtain ⟨-, -, ⟨c, x1, x2, x3, x4⟩, -, ⟨p6, z1, z2⟩, ⟨p7, w1, w2⟩⟩ := (h.2.2.1 u).2.2.2.2.1 hu.1 hu.2
  obtain ⟨b, hb⟩ := Option.ne_none_iff_exists'.mp x4
  obtain ⟨b1, b2⟩ := (h.2.2.1 c).1 x3 b hb
  exact ⟨c, b, p6, p7, x1, x2, ⟨x3, hb, b1, b2, (h.2.2.1 b).2.1 b1⟩, ⟨z1, z2, (h.2.2.1 p6).2.1 z2⟩, ⟨w1, w2, (h.2.2.1 p7).2.1 w2⟩⟩
theorem cg91 (hd : 6 ≤ d) (h : c_ok s) (o : Option Nat) : CG X Z d 91 [kQ (some 16), kQ o] s (fun r s' => (∃ x, r = .inl (some (kI x)) ∧ n_rng x) ∧ s' = s) := by
  have t16 := c_t h (16, 4) (by decide)
  have t17 := c_t h (17, 31) (by decide)
  have t18 := c_t h (18, 20) (by decide)
  have e1 : s.2.1 16 1 = some 17 := c_r h (16, 1, 17) (by decide)
  have e2 : s.2.1 16 2 = some 18 := c_r h (16, 2, 18) (by decide)
  have l17 : cN s 17 = 16 := c_l h (17, 16) (by decide)
  have l18 : cN s 18 = 16 := c_l h (18, 16) (by decide)
  have hc := h.2.2.2.1.2.2.2.2.2.1
  have h2 : ∀ (m : Nat) (j : Int), 0 ≤ j → j + m = s.1 16 3 → CP X Z d 91 2 [some (kQ (some 16)), some (kQ o), some (kI j)] [] s (fun r s' => (∃ x, r = .inl (some (kI x)) ∧ n_rng x) ∧ s' = s) := by
    intro m
    induction m with
    | zero =>
      intro j hj hm
      exact c_at nb91_2 hd rfl ⟨16, rfl, t16, ⟨by omega, by omega⟩, h.1 _ _, fun _ => c_at nb91_33 hd rfl ⟨⟨-1, rfl, by decide, by decide⟩, rfl⟩, fun z => absurd (show s.1 16 3 ≤ j by omega) z⟩
    | succ m ih =>
      intro j hj hm
      exact c_at nb91_2 hd rfl ⟨16, rfl, t16, ⟨by omega, by omega⟩, h.1 _ _, fun z => absurd (show s.1 16 3 ≤ j from z) (by omega), fun _ => ⟨16, rfl, t16, 17, 1, e1, t17, by decide, ⟨by omega, by rw [l17]; omega, by omega⟩, fun _ => c_at nb91_27 hd rfl (ih (j + 1) (by omega) (by omega)), fun _ => ⟨16, rfl, t16, 18, e2, t18, ⟨by omega, by rw [l18]; omega, by omega⟩, ⟨_, rfl, h.1 _ _⟩, rfl⟩⟩⟩
  refine c_G_of (L := [some (kQ (some 16)), some (kQ o), none]) (by rw [nl91]; exact Nat.le_of_ble_eq_true rfl) (by rw [nl91]; rfl) ?_
  exact c_at nb91_0 hd rfl (h2 (s.1 16 3).toNat 0 (by omega) (by omega))
/-- add -/
theorem cg89 (hd : 6 ≤ d) (h : c_ok s) (hu : c_un s u) : CG X Z d 89 [kQ (some 16), kQ (some u)] s (fun r s' => r = .inl none ∧ c_LK s s') := by
  have t16 := c_t h (16, 4) (by decide)
  have t17 := c_t h (17, 31) (by decide)
  have t18 := c_t h (18, 20) (by decide)
  have e1 : s.2.1 16 1 = some 17 := c_r h (16, 1, 17) (by decide)
  have e2 : s.2.1 16 2 = some 18 := c_r h (16, 2, 18) (by decide)
  have l17 : cN s 17 = 16 := c_l h (17, 16) (by decide)
  have l18 : cN s 18 = 16 := c_l h (18, 16) (by decide)
  have hc := h.2.2.2.1.2.2.2.2.2.1
  have h7 := h.2.2.2.1.2.2.2.2.2.2
  obtain ⟨c, b, p6, p7, x1, x2, hB, -, -⟩ := c_uat h hu
  have hu17 : u ≠ 17 := fun e => by
    have := hu.1
    rw [e, t17] at this
    exact absurd this (by decide)
  refine c_G_of (L := [some (kQ (some 16)), some (kQ (some u))]) (by rw [nl89]; exact Nat.le_of_ble_eq_true rfl) (by rw [nl89]; rfl) ?_
  refine c_at nb89_0 hd rfl ⟨16, rfl, t16, h.1 _ _, ⟨by decide, by decide⟩, fun _ => c_at nb89_58 hd rfl ⟨rfl, rfl, c_LK_rf h⟩, fun z => ?_⟩
  have z : ¬ 16 ≤ s.1 16 3 := z
  have q1 := c_ok_Ru (a := 17) (i := (s.1 16 3).toNat) h (Or.inr rfl) hu
  refine ⟨16, rfl, t16, 16, rfl, t16, 17, 1, e1, t17, by decide, ⟨by omega, by rw [l17]; omega, by omega⟩, fun b hb => (by cases hb; exact hu.1), ?_⟩
  have eR : ∀ x l, x ≠ 17 → (c_uR s 17 (s.1 16 3).toNat (some u)).2.1 x l = s.2.1 x l := fun x l hx => c_updR_ne hx
  have e17 : ∀ l : Nat, (l : Int) < s.1 16 3 + 1 → (c_uR s 17 (s.1 16 3).toNat (some u)).2.1 17 l ≠ none := fun l hl => by
    rw [c_R_at]
    split
    · simp
    · rename_i hn
      exact h7 l (by
        have : l ≠ (s.1 16 3).toNat := fun e => hn ⟨rfl, e⟩
        omega)
  have f3 : (c_uR s 17 (s.1 16 3).toNat (some u)).1 = s.1 := rfl
  have f4 : (c_uR s 17 (s.1 16 3).toNat (some u)).2.2 = s.2.2 := rfl
  generalize c_uR s 17 (s.1 16 3).toNat (some u) = S at *
  have tS : ∀ x, cT S x = cT s x := fun x => c_T22 f4
  have nS : ∀ x, cN S x = cN s x := fun x => by unfold cN; rw [f4]
  refine ⟨16, rfl, by rw [tS]; exact t16, 16, rfl, by rw [tS]; exact t16, 16, rfl, by rw [tS]; exact t16, 18, by rw [eR _ _ (by decide)]; exact e2, by rw [tS]; exact t18, ⟨by rw [f3]; omega, by rw [f3, nS, l18]; omega, by rw [f3]; omega⟩, ?_⟩
  have q2 := c_RP_18 (i := (S.1 16 3).toNat) (x := S.1 16 4) q1.1
  have g3 : (c_uA S 18 (S.1 16 3).toNat (c_w (S.1 16 4))).1 16 3 = s.1 16 3 := by rw [c_uA_ne (by decide), f3]
  have g2 : (c_uA S 18 (S.1 16 3).toNat (c_w (S.1 16 4))).2 = S.2 := rfl
  generalize c_uA S 18 (S.1 16 3).toNat (c_w (S.1 16 4)) = S2 at *
  have q3 := c_RP_16 (i := 3) (x := c_w (S2.1 16 3 + 1)) q2.1 (c_w_rg _) (fun _ => by
    rw [g3, c_w_id ⟨by omega, by omega⟩]
    exact ⟨⟨by omega, by omega⟩, fun l hl => by rw [g2]; exact e17 l hl⟩)
  refine ⟨16, rfl, by rw [c_T2 g2, tS]; exact t16, 16, rfl, by rw [c_T2 g2, tS]; exact t16, ?_⟩
  have g4 : (c_uA S2 16 3 (c_w (S2.1 16 3 + 1))).2 = S.2 := g2
  generalize c_uA S2 16 3 (c_w (S2.1 16 3 + 1)) = S3 at *
  have q4 := c_RP_16 (i := 4) (x := c_w (S3.1 16 4 + S3.1 c 1)) q3.1 (c_w_rg _) (fun h => absurd h (by decide))
  refine ⟨16, rfl, by rw [c_T2 g4, tS]; exact t16, u, rfl, by rw [c_T2 g4, tS]; exact hu.1, c, by rw [g4, eR _ _ hu17]; exact x1, by rw [c_T2 g4, tS]; exact hB.1, 16, rfl, by rw [c_T2 g4, tS]; exact t16, ?_⟩
  have q5 := c_RP_tr (c_RP_tr (c_RP_tr q1 q2) q3) q4
  exact c_at nb89_58 hd rfl ⟨rfl, rfl, q5.1, q5.2.1, q5.2.2.1, by show S3.2.2 = s.2.2; rw [g4]; exact f4, fun x l hx => by show S3.2.1 x l = s.2.1 x l; rw [g4]; exact eR x l hx⟩
/-- gatherCalledBy: the loop -/
theorem c_l90 (hd : 6 ≤ d) (h : c_ok s) (hu : c_un s u) (e7 : s.2.1 u 7 = some p7) : ∀ (m : Nat) (t : cS) (j : Int) (x3 : Option cV), c_LK s t → 0 ≤ j → j + m = cN s p7 → CP X Z (d + 1) 90 2 [some (kQ (some 16)), some (kQ (some u)), some (kI j), x3] [] t (fun r s' => (∃ x, r = .inl (some (kI x)) ∧ n_rng x) ∧ c_LK s s') := by
  have t17 := c_t h (17, 31) (by decide)
  have hu17 : u ≠ 17 := fun e => by
    have := hu.1
    rw [e, t17] at this
    exact absurd this (by decide)
  have h86 : ∀ (t : cS) (j : Int) (x3 : Option cV), c_LK s t → CP X Z (d + 1) 90 86 [some (kQ (some 16)), some (kQ (some u)), some (kI j), x3] [] t (fun r s' => (∃ x, r = .inl (some (kI x)) ∧ n_rng x) ∧ c_LK s s') := fun t j x3 ht => c_at nb90_86 (by omega) rfl ⟨⟨0, rfl, by decide, by decide⟩, ht⟩
  intro m
  induction m with
  | zero =>
    intro t j x3 ht hj hm
    have ut := c_un_E ht.2.1 hu
    obtain ⟨c, b, p6, q7, y1, y2, hB, ⟨z1, z2, z3⟩, ⟨w1, w2, w3⟩⟩ := c_uat ht.1 ut
    have eq : q7 = p7 := by
      rw [ht.2.2.2.2 u 7 hu17, e7] at w1
      exact (Option.some.inj w1).symm
    have en : cN t p7 = cN s p7 := by unfold cN; rw [ht.2.2.2.1]
    rw [eq] at w1 w2 w3
    exact c_at nb90_2 (by omega) rfl ⟨u, rfl, ut.1, p7, w1, Or.inl w2, ⟨by omega, by omega⟩, ⟨by omega, by omega⟩, fun _ => h86 t j x3 ht, fun z => absurd (show (cN t p7 : Int) ≤ j by omega) z⟩
  | succ m ih =>
    intro t j x3 ht hj hm
    have ut := c_un_E ht.2.1 hu
    obtain ⟨c, b, p6, q7, y1, y2, hB, ⟨z1, z2, z3⟩, ⟨w1, w2, w3⟩⟩ := c_uat ht.1 ut
    have eq : q7 = p7 := by
      rw [ht.2.2.2.2 u 7 hu17, e7] at w1
      exact (Option.some.inj w1).symm
    have en : cN t p7 = cN s p7 := by unfold cN; rw [ht.2.2.2.1]
    rw [eq] at w1 w2 w3
    have t16 := c_t ht.1 (16, 4) (by decide)
    refine c_at nb90_2 (by omega) rfl ⟨u, rfl, ut.1, p7, w1, Or.inl w2, ⟨by omega, by omega⟩, ⟨by omega, by omega⟩, fun _ => h86 t j x3 ht, fun _ => ⟨u, rfl, ut.1, p6, z1, Or.inl z2, ⟨by omega, by omega⟩, ⟨by omega, by omega⟩, fun _ => h86 t j x3 ht, fun z6 => ⟨16, rfl, t16, u, rfl, ut.1, p7, w1, w2, ⟨by omega, by omega, by omega⟩, ?_⟩⟩⟩
    have z6 : ¬ (cN t p6 : Int) ≤ j := z6
    show wc Z _ _ _ _ _ [kI (t.1 p7 j.toNat), kI 1, kQ (t.2.1 16 0)] t
    rw [show t.2.1 16 0 = some 5 from c_r ht.1 (16, 0, 5) (by decide)]
    refine c_iv (a := 5) (vs := [kQ (some 5), kI 1, kI (t.1 p7 j.toNat)]) (r := []) nn59 (by simp) rfl nc59 (c_t ht.1 (5, 8) (by decide)) (by decide) (cg59 hd ht.1 ⟨by decide, by decide⟩ (ht.1.1 _ _)) (fun r t1 hr => ?_)
    obtain ⟨⟨o, e, ho⟩, es⟩ := hr
    rw [e, es]
    refine ⟨fun zn => ?_, fun _ => ⟨⟨2, rfl, by decide, by decide⟩, ht⟩⟩
    obtain ⟨w, ew⟩ : ∃ w, o = some w := Option.ne_none_iff_exists'.mp zn
    subst ew
    have hw := ho w rfl
    obtain ⟨p, pp1, pp2⟩ := (c_par ht.1 hw).1
    have lp : cN t p < 99999 := (ht.1.2.2.1 p).2.1 pp2
    refine c_at nb90_41 (by omega) rfl ⟨w, rfl, hw.1, p, pp1, Or.inl pp2, u, rfl, ut.1, u, rfl, ut.1, p6, z1, z2, ⟨by omega, by omega, by omega⟩, ?_⟩
    show wc Z _ _ _ _ _ [kI (t.1 p6 j.toNat + 2), kQ (t.2.1 u 4), kI (cN t p)] t
    rw [y1]
    refine c_iv (a := c) (vs := [kQ (some c), kI (t.1 p6 j.toNat + 2)]) (r := [kI (cN t p)]) nn16 (by simp) rfl nc16 hB.1 (by decide) (cg16w hd hB ht.1.1) (fun r t1 hr => ?_)
    obtain ⟨⟨y, ey, hy⟩, es⟩ := hr
    rw [ey, es]
    have h80 : ∀ t2, c_LK s t2 → CP X Z (d + 1) 90 80 [some (kQ (some 16)), some (kQ (some u)), some (kI j), some (kQ (some w))] [] t2 (fun r s' => (∃ x, r = .inl (some (kI x)) ∧ n_rng x) ∧ c_LK s s') := fun t2 h2 => c_at nb90_80 (by omega) rfl (ih t2 (j + 1) _ h2 (by omega) (by omega))
    refine ⟨⟨by omega, by omega⟩, hy, fun _ => ?_, fun _ => ⟨⟨3, rfl, by decide, by decide⟩, ht⟩⟩
    refine c_at nb90_66 (by omega) rfl ?_
    refine c_iv (a := 16) (vs := [kQ (some 16), kQ (some w)]) (r := []) nn91 (by simp) rfl nc91 t16 (by decide) (cg91 hd ht.1 (some w)) (fun r t1 hr => ?_)
    obtain ⟨⟨g, eg, hg⟩, es⟩ := hr
    rw [eg, es]
    refine ⟨hg, ⟨by decide, by decide⟩, fun _ => h80 t ht, fun _ => ?_⟩
    refine c_iv (a := 16) (vs := [kQ (some 16), kQ (some w)]) (r := []) nn89 (by simp) rfl nc89 t16 (by decide) (cg89 hd ht.1 hw) (fun r t1 hr => ?_)
    rw [hr.1]
    exact h80 t1 (c_LK_tr ht hr.2)
theorem cg90 (hd : 6 ≤ d) (h : c_ok s) (hu : c_un s u) : CG X Z (d + 1) 90 [kQ (some 16), kQ (some u)] s (fun r s' => (∃ x, r = .inl (some (kI x)) ∧ n_rng x) ∧ c_LK s s') := by
  obtain ⟨c, b, p6, p7, -, -, -, -, ⟨w1, w2, w3⟩⟩ := c_uat h hu
  refine c_G_of (L := [some (kQ (some 16)), some (kQ (some u)), none, none]) (by rw [nl90]; exact Nat.le_of_ble_eq_true rfl) (by rw [nl90]; rfl) ?_
  exact c_at nb90_0 (by omega) rfl (c_l90 hd h hu w1 (cN s p7) s 0 none (c_LK_rf h) (by omega) (by omega))
/-- gather: the loop -/
theorem c_l88 (hd : 6 ≤ d) {o : Option Nat} : ∀ (m : Nat) (t : cS) (j : Int) (x3 : Option cV), c_LK s t → 0 ≤ j → j + m = 16 → CP X Z (d + 2) 88 33 [some (kQ (some 16)), some (kQ o), some (kI j), x3] [] t (fun r s' => (∃ x, r = .inl (some (kI x)) ∧ n_rng x) ∧ c_LK s s') := by
  have h70 : ∀ (t : cS) (j : Int) (x3 : Option cV), c_LK s t → CP X Z (d + 2) 88 70 [some (kQ (some 16)), some (kQ o), some (kI j), x3] [] t (fun r s' => (∃ x, r = .inl (some (kI x)) ∧ n_rng x) ∧ c_LK s s') := fun t j x3 ht => by
    have h85 : ∀ y : Int, n_rng y → CP X Z (d + 2) 88 85 [some (kQ (some 16)), some (kQ o), some (kI j), x3] [kI y] t (fun r s' => (∃ x, r = .inl (some (kI x)) ∧ n_rng x) ∧ c_LK s s') := fun y hy => c_at nb88_85 (by omega) rfl ⟨⟨y, rfl, hy⟩, ht⟩
    exact c_at nb88_70 (by omega) rfl ⟨16, rfl, c_t ht.1 (16, 4) (by decide), ht.1.1 _ _, ⟨by decide, by decide⟩, fun _ => c_at nb88_84 (by omega) rfl (h85 0 ⟨by decide, by decide⟩), fun _ => h85 4 ⟨by decide, by decide⟩⟩
  intro m
  induction m with
  | zero =>
    intro t j x3 ht hj hm
    exact c_at nb88_33 (by omega) rfl ⟨⟨by omega, by omega⟩, ⟨by decide, by decide⟩, fun _ => h70 t j x3 ht, fun z => absurd (show (16 : Int) ≤ j by omega) z⟩
  | succ m ih =>
    intro t j x3 ht hj hm
    have t16 := c_t ht.1 (16, 4) (by decide)
    have t17 := c_t ht.1 (17, 31) (by decide)
    have l17 : cN t 17 = 16 := c_l ht.1 (17, 16) (by decide)
    have e1 : t.2.1 16 1 = some 17 := c_r ht.1 (16, 1, 17) (by decide)
    refine c_at nb88_33 (by omega) rfl ⟨⟨by omega, by omega⟩, ⟨by decide, by decide⟩, fun z => absurd (show (16 : Int) ≤ j from z) (by omega), fun _ => ⟨16, rfl, t16, ⟨by omega, by omega⟩, ht.1.1 _ _, fun _ => h70 t j x3 ht, fun z => ⟨16, rfl, t16, 17, 1, e1, t17, by decide, ⟨by omega, by rw [l17]; omega, by omega⟩, ?_⟩⟩⟩
    have z : ¬ t.1 16 3 ≤ j := z
    obtain ⟨w, ew⟩ : ∃ w, t.2.1 17 j.toNat = some w := Option.ne_none_iff_exists'.mp (ht.1.2.2.2.1.2.2.2.2.2.2 j.toNat (by omega))
    have hw := (ht.1.2.2.1 17).2.2.2.2.2.2 t17 _ w ew
    show wc Z _ _ _ _ _ [kQ (t.2.1 17 j.toNat), kQ (some 16)] t
    rw [ew]
    refine c_iv (d := d + 1) (a := 16) (vs := [kQ (some 16), kQ (some w)]) (r := []) nn90 (by simp) rfl nc90 t16 (by decide) (cg90 hd ht.1 hw) (fun r t1 hr => ?_)
    obtain ⟨⟨y, ey, hy⟩, h1⟩ := hr
    rw [ey]
    exact ⟨hy, fun _ => c_at nb88_64 (by omega) rfl (ih t1 (j + 1) _ (c_LK_tr ht h1) (by omega) (by omega)), fun _ => ⟨⟨y, rfl, hy⟩, c_LK_tr ht h1⟩⟩
theorem cg88 (hd : 6 ≤ d) (h : c_ok s) : CG X Z (d + 2) 88 [kQ (some 16)] s (fun r s' => (∃ x, r = .inl (some (kI x)) ∧ n_rng x) ∧ c_LK s s') := by
  have t16 := c_t h (16, 4) (by decide)
  have e0 : c_w 0 = 0 := by decide
  have r0 : n_rng 0 := ⟨by decide, by decide⟩
  refine c_G_of (L := [some (kQ (some 16)), none, none, none]) (by rw [nl88]; exact Nat.le_of_ble_eq_true rfl) (by rw [nl88]; rfl) ?_
  refine c_at nb88_0 (by omega) rfl ⟨16, rfl, t16, 16, rfl, t16, 16, rfl, t16, ?_⟩
  rw [e0]
  have q1 := c_RP_16 (i := 3) (x := 0) h r0 (fun _ => ⟨⟨by decide, by decide⟩, fun l hl => by omega⟩)
  have q2 := c_RP_16 (i := 4) (x := 0) q1.1 r0 (fun h => absurd h (by decide))
  have q3 := c_RP_tr q1 q2
  have hL : c_LK s (c_uA (c_uA s 16 3 0) 16 4 0) := ⟨q3.1, q3.2.1, q3.2.2.1, rfl, fun _ _ _ => rfl⟩
  generalize c_uA (c_uA s 16 3 0) 16 4 0 = S at *
  show wc Z _ _ _ _ _ [kI 0, kI 0, kQ (S.2.1 16 0)] S
  rw [show S.2.1 16 0 = some 5 from c_r hL.1 (16, 0, 5) (by decide)]
  refine c_iv (d := d + 1) (a := 5) (vs := [kQ (some 5), kI 0, kI 0]) (r := []) nn59 (by simp) rfl nc59 (c_t hL.1 (5, 8) (by decide)) (by decide) (cg59 (by omega) hL.1 r0 r0) (fun r t1 hr => ?_)
  obtain ⟨⟨o, e, ho⟩, es⟩ := hr
  rw [e, es]
  refine ⟨fun zn => ?_, fun _ => ⟨⟨1, rfl, by decide, by decide⟩, hL⟩⟩
  obtain ⟨w, ew⟩ : ∃ w, o = some w := Option.ne_none_iff_exists'.mp zn
  subst ew
  have hw := ho w rfl
  refine c_at nb88_26 (by omega) rfl ?_
  refine c_iv (d := d + 1) (a := 16) (vs := [kQ (some 16), kQ (some w)]) (r := []) nn89 (by simp) rfl nc89 (c_t hL.1 (16, 4) (by decide)) (by decide) (cg89 (by omega) hL.1 hw) (fun r t1 hr => ?_)
  rw [hr.1]
  exact c_l88 hd 16 t1 0 none (c_LK_tr hL hr.2) (by omega) (by omega)
end F2
