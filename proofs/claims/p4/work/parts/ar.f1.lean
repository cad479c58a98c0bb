/-! A UNIT IS PUT ON THE SHELF; compile -/
section F1
variable {X : Nat → mm_O} {Z : Nat → List Int32} {d n : Nat} {s s0 s' S t : cS} {a b i u f c : Nat} {v k j k0 j0 x : Int}
theorem c_ok_Ru (h : c_ok s) (ha : a = 6 ∨ a = 17) (hu : c_un s u) : c_RP s (c_uR s a i (some u)) 0 0 := by
  have ta : cT s a = 31 := by
    rcases ha with e | e
    · rw [e]; exact c_t h (6, 31) (by decide)
    · rw [e]; exact c_t h (17, 31) (by decide)
  obtain ⟨r1, r2, r3, r4⟩ := h.2.2.2.2
  have hk : (cT s a = 1 ∨ cT s a = 7 ∨ cT s a = 9) → (some u : Option Nat) ≠ none := fun _ => by simp
  have eo : ∀ x l, x ≠ a → (c_uR s a i (some u)).2.1 x l = s.2.1 x l := fun x l hx => c_updR_ne hx
  have n3 : 3 ≠ a := by omega
  have n7 : 7 ≠ a := by omega
  have ta' : cT (c_uR s a i (some u)) a = 31 := ta
  have nq : ∀ {l : Nat}, cT (c_uR s a i (some u)) a = l → l ≠ 31 → False := fun h1 h3 => h3 (h1.symm.trans ta')
  refine ⟨c_ok_R h (fun p hp e => ?_) ⟨fun q => (nq q (by decide)).elim, fun q => (nq q (by decide)).elim, fun q => (nq q (by decide)).elim, fun q => (nq q (by decide)).elim, fun q => (nq q (by decide)).elim, fun q => (nq q (by decide)).elim, fun _ l w hw => ?_⟩ hk (fun _ => by simp) ⟨by rw [eo 3 2 n3]; exact r1, by rw [eo 3 3 n3]; exact r2, by rw [eo 7 10 n7]; exact r3, by rw [eo 7 11 n7]; exact c_rp_E (c_E_R hk) r4⟩, c_E_R hk, c_tx_rf, c_bd0⟩
  · have hr : ∀ p ∈ c_rfs, ¬ (p.1 = 6 ∨ p.1 = 17) := by decide
    exact hr p hp (by rw [e.1]; exact ha)
  · rw [c_R_at] at hw
    refine c_un_E (c_E_R hk) ?_
    split at hw
    · cases hw
      exact hu
    · exact (h.2.2.1 a).2.2.2.2.2.2 ta l w hw
theorem c_RP_u5 (h : c_ok s) (hx : 0 ≤ x ∧ x ≤ 16) : c_RP s (c_uA s 5 1 x) 0 0 := by
  obtain ⟨a1, a2, a3, a4, a5, a6, a7⟩ := h.2.2.2.1
  refine ⟨c_ok_u h ⟨by omega, by omega⟩ (c_t h (5, 8) (by decide)) (by decide) ⟨a1, ?_, a3, a4, a5, a6, a7⟩, c_E_2 rfl, c_tx_u (by decide), c_bd0⟩
  show 0 ≤ n_updA s.1 5 1 x 5 1 ∧ n_updA s.1 5 1 x 5 1 ≤ 16
  rw [n_ua_eq, if_pos rfl]
  exact hx
theorem cg85 (hd : 6 ≤ d) (h : c_ok s) : CG X Z d 85 [kQ (some 5)] s (fun r s' => r = .inl (some (kI (if s.1 5 1 < 16 then 0 else 1))) ∧ s' = s) := by
  have t5 := c_t h (5, 8) (by decide)
  refine c_G_of (L := [some (kQ (some 5))]) (by rw [nl85]; exact Nat.le_of_ble_eq_true rfl) (by rw [nl85]; rfl) ?_
  refine c_at nb85_0 hd rfl ⟨5, rfl, t5, h.1 _ _, ⟨by decide, by decide⟩, fun z => ?_, fun z => ?_⟩
  · have z : s.1 5 1 < 16 := z
    exact c_at nb85_13 hd rfl (c_at nb85_14 hd rfl ⟨Or.inl rfl, by rw [if_pos z], rfl⟩)
  · have z : ¬ s.1 5 1 < 16 := z
    exact c_at nb85_14 hd rfl ⟨Or.inr rfl, by rw [if_neg z], rfl⟩
theorem cg86 (hd : 6 ≤ d) (h : c_ok s) (hu : c_un s u) : CG X Z (d + 1) 86 [kQ (some 5), kQ (some u)] s (fun r s' => (∃ x, r = .inl (some (kI x))) ∧ c_RP s s' 0 0) := by
  have t5 := c_t h (5, 8) (by decide)
  have e6 : s.2.1 5 0 = some 6 := c_r h (5, 0, 6) (by decide)
  have t6 := c_t h (6, 31) (by decide)
  have l6 : cN s 6 = 16 := c_l h (6, 16) (by decide)
  have hc := h.2.2.2.1.2.1
  refine c_G_of (L := [some (kQ (some 5)), some (kQ (some u))]) (by rw [nl86]; exact Nat.le_of_ble_eq_true rfl) (by rw [nl86]; rfl) ?_
  refine c_at nb86_0 (by omega) rfl ?_
  refine c_iv (a := 5) (vs := [kQ (some 5)]) (r := []) nn85 (by simp) rfl nc85 t5 (by decide) (cg85 hd h) (fun r s1 hr => ?_)
  rw [hr.1, hr.2]
  by_cases z : s.1 5 1 < 16
  · rw [if_pos z]
    refine ⟨⟨by decide, by decide⟩, fun _ => ?_, fun z => absurd rfl z⟩
    have q1 := c_ok_Ru (a := 6) (i := (s.1 5 1).toNat) h (Or.inl rfl) hu
    have q2 : c_RP (c_uR s 6 (s.1 5 1).toNat (some u)) (c_uA (c_uR s 6 (s.1 5 1).toNat (some u)) 5 1 (c_w (s.1 5 1 + 1))) 0 0 := c_RP_u5 q1.1 (by rw [c_w_id ⟨by omega, by omega⟩]; omega)
    exact c_at nb86_9 (by omega) rfl ⟨5, rfl, t5, 5, rfl, t5, 6, 1, e6, t6, by decide, ⟨by omega, by rw [l6]; omega, by omega⟩, fun b hb => (by cases hb; exact hu.1), 5, rfl, t5, 5, rfl, t5, 5, rfl, t5, ⟨_, rfl⟩, c_RP_tr q1 q2⟩
  · rw [if_neg z]
    exact ⟨⟨by decide, by decide⟩, fun z => absurd z (by decide), fun _ => ⟨⟨_, rfl⟩, c_RP_rf h⟩⟩
/-- what a compile leaves; R: what reading said -/
def c_CMP (R : Option Nat → Int → Prop) (s : cS) (r : cA) (s' : cS) : Prop := ((∃ x, r = .inl (some (kI x))) ∨ ∃ e, r = .inr e ∧ e < 3) ∧ c_ok s' ∧ c_E s s' ∧ s'.1 1 1 = 0 ∧ c_bd s s' 160 1700 ∧ ∃ o e, R o e ∧ s'.1 0 6 = (if o = none then e else -1)
def c_C3 (R : Option Nat → Int → Prop) (s s' : cS) : Prop := c_ok s' ∧ c_E s s' ∧ s'.1 1 1 = 0 ∧ c_bd s s' 120 720 ∧ ∃ o e, R o e ∧ s'.1 0 6 = (if o = none then e else -1)
variable {R : Option Nat → Int → Prop}
theorem c_C3_f {r : cA} {x y : Nat} (h : c_C3 R s s0) (g : c_RP s0 t x y) (hx : x ≤ 40) (hy : y ≤ 980) (hr : (∃ x, r = .inl (some (kI x))) ∨ ∃ e, r = .inr e ∧ e < 3) : c_CMP R s r t := by
  obtain ⟨h1, h2, h3, h4, o, e, h5, h6⟩ := h
  obtain ⟨g1, g2, g3, g4⟩ := g
  refine ⟨hr, g1, c_E_tr h2 g2, g3.1.trans h3, ?_, o, e, h5, g3.2.2.trans h6⟩
  unfold c_bd at *
  omega
theorem c_RP_q (h : c_ok s) : c_RP s (c_q s 1 6) 1 6 := by
  obtain ⟨h1, h2, h3⟩ := c_ok_q h (x := 1) (y := 6)
  refine ⟨h1, h2, h3, ?_⟩
  unfold c_bd cq cn c_q
  simp only
  omega
/-- the unit goes onto the shelf -/
theorem c_27e (hd : 6 ≤ d) {o : Option Nat} (h : c_C3 R s s0) {x y : Nat} (g : c_RP s0 t x y) (hx : x ≤ 38) (hy : y ≤ 960) (hu : c_un t u) (hq : 1 ≤ (cq t).1 ∧ 6 ≤ (cq t).2) : CP X Z (d + 2) 27 77 [some (kQ (some 0)), some (kQ o), some (kQ (some u))] [] t (c_CMP R s) := by
  have t0 := c_t g.1 (0, 0) (by decide)
  have t5 := c_t g.1 (5, 8) (by decide)
  have e2 : t.2.1 0 2 = some 5 := c_r g.1 (0, 2, 5) (by decide)
  refine c_at nb27_77 (by omega) rfl ⟨0, rfl, t0, ?_⟩
  show wc Z _ _ _ _ _ [kQ (t.2.1 0 2)] t
  rw [e2]
  refine c_iv (d := d + 1) (a := 5) (vs := [kQ (some 5)]) (r := []) nn85 (by simp) rfl nc85 t5 (by decide) (cg85 (by omega) g.1) (fun r s1 hr => ?_)
  rw [hr.1, hr.2]
  by_cases z : t.1 5 1 < 16
  · rw [if_pos z]
    refine ⟨⟨by decide, by decide⟩, fun _ => ?_, fun z => absurd rfl z⟩
    refine c_at nb27_97 (by omega) rfl ⟨0, rfl, t0, ?_⟩
    show wc Z _ _ _ _ _ [kQ (some u), kQ (t.2.1 0 2)] t
    rw [e2]
    refine c_iv (d := d + 1) (a := 5) (vs := [kQ (some 5), kQ (some u)]) (r := []) nn86 (by simp) rfl nc86 t5 (by decide) (cg86 (by omega) g.1 hu) (fun r s1 hr => ?_)
    obtain ⟨⟨v, e⟩, m⟩ := hr
    rw [e]
    exact c_C3_f h (c_RP_tr g m) (by omega) (by omega) (Or.inl ⟨v, rfl⟩)
  · rw [if_neg z]
    exact ⟨⟨by decide, by decide⟩, fun z => absurd z (by decide), fun _ => ⟨by simp, hq.1, hq.2, c_C3_f h (c_RP_tr g (c_RP_q g.1)) (by omega) (by omega) (Or.inr ⟨2, rfl, by decide⟩)⟩⟩
/-- a form was read -/
theorem c_27f (hd : 6 ≤ d) (h : c_C3 R s s0) (tf : cT s0 f = 3) (hq : 160 ≤ (cq s).1 ∧ 1700 ≤ (cq s).2 ∧ cn s + (cq s).1 ≤ 1000000) : CP X Z (d + 206) 27 52 [some (kQ (some 0)), some (kQ (some f)), none] [] s0 (c_CMP R s) := by
  have hb := h.2.2.2.1
  unfold c_bd at hb
  have hk := h.1
  have t0 := c_t hk (0, 0) (by decide)
  have t7 := c_t hk (7, 2) (by decide)
  have e3 : s0.2.1 0 3 = some 7 := c_r hk (0, 3, 7) (by decide)
  refine c_at nb27_52 (by omega) rfl ⟨0, rfl, t0, ?_⟩
  show wc Z _ _ _ _ _ [kQ (some f), kQ (s0.2.1 0 3)] s0
  rw [e3]
  refine c_iv (d := d + 205) (a := 7) (vs := [kQ (some 7), kQ (some f)]) (r := []) nn44 (by simp) rfl nc44 t7 (by decide) (cg44 (d := d + 201) (by omega) hk (by unfold c_few; omega) tf ⟨by omega, by omega, by omega⟩) (fun r s1 hr => ?_)
  rcases hr with ⟨e, es⟩ | ⟨u, e, hu, m⟩
  · rw [e, es]
    exact c_C3_f h (c_RP_q hk) (by omega) (by omega) (Or.inr ⟨1, rfl, by decide⟩)
  · rw [e]
    have mb := m.2.2.2
    unfold c_bd at mb
    refine ⟨u, rfl, hu.1, m.1.1 _ _, ⟨by decide, by decide⟩, fun _ => c_27e (d := d + 204) (by omega) h m (by omega) (by omega) hu ⟨by omega, by omega⟩, fun _ => ⟨0, rfl, c_t m.1 (0, 0) (by decide), ?_⟩⟩
    show wc Z _ _ _ _ _ [kQ (some u), kQ (s1.2.1 0 3)] s1
    rw [show s1.2.1 0 3 = some 7 from c_r m.1 (0, 3, 7) (by decide)]
    refine c_iv (d := d + 205) (a := 7) (vs := [kQ (some 7), kQ (some u)]) (r := []) nn52 (by simp) rfl nc52 (c_t m.1 (7, 2) (by decide)) (by decide) (cg52 hd m.1 hu ⟨by omega, by omega⟩ (by omega)) (fun r s2 hr => ?_)
    obtain ⟨e2, m2⟩ := hr
    have m2b := m2.2.2.2
    unfold c_bd at m2b
    rcases e2 with e2 | e2
    · rw [e2]
      exact c_C3_f h (c_RP_tr m m2) (by omega) (by omega) (Or.inr ⟨1, rfl, by decide⟩)
    · rw [e2]
      exact c_27e (d := d + 204) (by omega) h (c_RP_tr m m2) (by omega) (by omega) (c_un_E m2.2.1 hu) ⟨by omega, by omega⟩
/-- the text is empty, the position set -/
theorem c_27s (m : c_RP s S 120 720) (hx : n_rng x) {o : Option Nat} {e : Int} (hR : R o e) (he : x = (if o = none then e else -1)) : c_C3 R s (c_uA (c_uA S 1 1 0) 0 6 (c_w x)) := by
  have hB : c_By S 1 2 := c_ok_By m.1 (p := (1, 0, 2)) (by decide) rfl (by decide)
  have hm := c_emp_BM hB m.1.1
  obtain ⟨g1, g2⟩ := c_ok_BM m.1 hB hm
  refine ⟨?_, c_E_tr m.2.1 (c_E_tr g2 (c_E_2 rfl)), ?_, m.2.2.2, o, e, hR, ?_⟩
  · obtain ⟨a1, a2, a3, a4, a5, a6, a7⟩ := g1.2.2.2.1
    exact c_ok_u g1 (c_w_rg _) (c_t g1 (0, 0) (by decide)) (by decide) ⟨a1, a2, a3, a4, a5, a6, a7⟩
  · show n_updA (n_updA S.1 1 1 0) 0 6 (c_w x) 1 1 = 0
    rw [n_ua_ne (by decide), n_ua_eq, if_pos rfl]
  · show n_updA (n_updA S.1 1 1 0) 0 6 (c_w x) 0 6 = _
    rw [n_ua_eq, if_pos rfl, c_w_id hx]
    exact he
/-- compile, from what reading says -/
theorem cg27R (hd : 6 ≤ d) (h : c_ok s) (hq : 160 ≤ (cq s).1 ∧ 1700 ≤ (cq s).2 ∧ cn s + (cq s).1 ≤ 1000000) (hR : CG X Z (d + 205) 28 [kQ (some 3), kQ (some 1)] s (fun r s' => (∃ o, r = .inl (some (kQ o)) ∧ c_fo s' o ∧ R o (s'.1 3 6)) ∧ c_RP s s' 120 720)) : CG X Z (d + 206) 27 [kQ (some 0)] s (c_CMP R s) := by
  have t0 := c_t h (0, 0) (by decide)
  refine c_G_of (L := [some (kQ (some 0)), none, none]) (by rw [nl27]; exact Nat.le_of_ble_eq_true rfl) (by rw [nl27]; rfl) ?_
  refine c_at nb27_0 (by omega) rfl ⟨0, rfl, t0, 0, rfl, t0, ?_⟩
  show wc Z _ _ _ _ _ [kQ (s.2.1 0 0), kQ (s.2.1 0 1)] s
  rw [show s.2.1 0 0 = some 1 from c_r h (0, 0, 1) (by decide), show s.2.1 0 1 = some 3 from c_r h (0, 1, 3) (by decide)]
  refine c_iv (d := d + 205) (a := 3) (vs := [kQ (some 3), kQ (some 1)]) (r := []) nn28 (by simp) rfl nc28 (c_t h (3, 6) (by decide)) (by decide) hR (fun r S hr => ?_)
  obtain ⟨⟨o, e, fo, hRo⟩, m⟩ := hr
  rw [e]
  have mb := m.2.2.2
  unfold c_bd at mb
  have r1 : S.2.1 0 0 = some 1 := c_r m.1 (0, 0, 1) (by decide)
  have r3 : S.2.1 0 1 = some 3 := c_r m.1 (0, 1, 3) (by decide)
  have u1 := c_t m.1 (1, 1) (by decide)
  refine ⟨0, rfl, c_t m.1 (0, 0) (by decide), ?_⟩
  show wc Z _ _ _ _ _ [kQ (S.2.1 0 0)] S
  rw [r1]
  refine c_iv (d := d + 205) (a := 1) (vs := [kQ (some 1)]) (r := []) nn43 (by simp) rfl nc43 u1 (by decide) (cg43 (by omega) u1) (fun r s1 hr => ?_)
  rw [hr.1, hr.2]
  have T0 : cT (c_uA S 1 1 0) 0 = 0 := c_t m.1 (0, 0) (by decide)
  have e36 : (c_uA S 1 1 0).1 3 6 = S.1 3 6 := c_uA_ne (by decide)
  refine ⟨fun z => ?_, fun z => ⟨0, rfl, T0, 3, r3, c_t m.1 (3, 6) (by decide), ?_⟩⟩
  · obtain ⟨f, rfl⟩ : ∃ f, o = some f := Option.ne_none_iff_exists'.mp z
    have hc := c_27s (x := -1) m ⟨by decide, by decide⟩ hRo (by rw [if_neg (by simp)])
    refine c_at nb27_34 (by omega) rfl (c_at nb27_35 (by omega) rfl ⟨0, rfl, T0, fun _ => c_27f hd hc (fo f rfl) hq, fun z => absurd z (by simp)⟩)
  · have hc := c_27s (x := S.1 3 6) m (m.1.1 _ _) hRo (by rw [if_pos z])
    rw [e36]
    refine c_at nb27_35 (by omega) rfl ⟨0, rfl, T0, fun z2 => absurd z z2, fun _ => ⟨by simp, by show 1 ≤ (cq S).1; omega, by show 6 ≤ (cq S).2; omega, c_C3_f hc (c_RP_q hc.1) (by omega) (by omega) (Or.inr ⟨0, rfl, by decide⟩)⟩⟩
theorem cg27 (hd : 6 ≤ d) (h : c_ok s) (hq : 160 ≤ (cq s).1 ∧ 1700 ≤ (cq s).2 ∧ cn s + (cq s).1 ≤ 1000000) : CG X Z (d + 206) 27 [kQ (some 0)] s (c_CMP (fun _ _ => True) s) :=
  cg27R hd h hq (CG_mono (cg28 (d := d + 201) (by omega) h ⟨by omega, by omega⟩) (fun r s' hr => by
    obtain ⟨⟨o, e, fo⟩, m⟩ := hr
    exact ⟨⟨o, e, fo, trivial⟩, m⟩))
end F1
