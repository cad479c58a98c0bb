/-! THE CLASS BETWEEN TWO CALLS -/
def c_tgs : List (Nat × Nat) := [(0, 0), (1, 1), (2, 20), (3, 6), (4, 30), (5, 8), (6, 31), (7, 2), (8, 1), (9, 20), (10, 1), (11, 20), (12, 20), (13, 20), (14, 20), (15, 20), (16, 4), (17, 31), (18, 20), (19, 5), (20, 1), (21, 20), (22, 20), (23, 20), (24, 20)]
def c_rfs : List (Nat × (Nat × Nat)) := [(0, 0, 1), (0, 1, 3), (0, 2, 5), (0, 3, 7), (0, 4, 16), (0, 5, 19), (1, 0, 2), (3, 0, 4), (5, 0, 6), (7, 0, 5), (7, 1, 8), (7, 2, 10), (7, 3, 12), (7, 4, 13), (7, 6, 14), (7, 7, 15), (8, 0, 9), (10, 0, 11), (16, 0, 5), (16, 1, 17), (16, 2, 18), (19, 0, 20), (19, 1, 22), (19, 3, 23), (19, 4, 24), (20, 0, 21)]
def c_lns : List (Nat × Nat) := [(2, 120), (4, 8), (6, 16), (9, 200), (11, 560), (12, 50), (13, 50), (14, 104), (15, 104), (17, 16), (18, 16), (21, 600), (22, 120), (23, 24), (24, 24)]
def c_fx (s : cS) : Prop := (∀ p ∈ c_tgs, cT s p.1 = p.2) ∧ (∀ p ∈ c_rfs, s.2.1 p.1 p.2.1 = some p.2.2) ∧ (∀ p ∈ c_lns, cN s p.1 = p.2) ∧ 59 ≤ cn s
def c_fo (s : cS) (o : Option Nat) : Prop := ∀ b, o = some b → cT s b = 3
def c_un (s : cS) (u : Nat) : Prop := cT s u = 9 ∧ s.2.1 u 2 ≠ none
def c_rp (s : cS) (o : Option Nat) : Prop := ∀ b, o = some b → cT s b = 7 ∧ s.2.1 b 0 ≠ none
def c_Wa (s : cS) (a : Nat) : Prop :=
  (cT s a = 1 → ∀ b, s.2.1 a 0 = some b → cT s b = 20 ∧ (0 ≤ s.1 a 1 ∧ s.1 a 1 ≤ cN s b)) ∧
  (cT s a = 20 → cN s a < 99999) ∧
  (cT s a = 3 → c_fo s (s.2.1 a 3) ∧ c_fo s (s.2.1 a 4) ∧ c_fo s (s.2.1 a 5) ∧ ∀ b, s.2.1 a 5 = some b → a < b) ∧
  (cT s a = 7 → s.2.1 a 0 ≠ none → (∀ u, s.2.1 a 0 = some u → c_un s u) ∧ c_fo s (s.2.1 a 1) ∧ c_rp s (s.2.1 a 2) ∧ ∀ b, s.2.1 a 2 = some b → b < a) ∧
  (cT s a = 9 → s.2.1 a 2 ≠ none → (∃ p, s.2.1 a 2 = some p ∧ cT s p = 20) ∧ c_fo s (s.2.1 a 3) ∧ (∃ c, s.2.1 a 4 = some c ∧ 25 ≤ c ∧ cT s c = 1 ∧ s.2.1 c 0 ≠ none) ∧ (∃ c, s.2.1 a 5 = some c ∧ cT s c = 1 ∧ s.2.1 c 0 ≠ none) ∧ (∃ p, s.2.1 a 6 = some p ∧ cT s p = 20) ∧ (∃ p, s.2.1 a 7 = some p ∧ cT s p = 20)) ∧
  (cT s a = 30 → ∀ i, c_fo s (s.2.1 a i)) ∧
  (cT s a = 31 → ∀ i u, s.2.1 a i = some u → c_un s u)
def c_sA (s : cS) : Prop := (0 ≤ s.1 3 1 ∧ s.1 3 1 ≤ 8) ∧ (0 ≤ s.1 5 1 ∧ s.1 5 1 ≤ 16) ∧ (0 ≤ s.1 7 5 ∧ s.1 7 5 ≤ 50) ∧ (0 ≤ s.1 7 8 ∧ s.1 7 8 ≤ 104) ∧ (0 ≤ s.1 7 9 ∧ s.1 7 9 ≤ 12) ∧ (0 ≤ s.1 16 3 ∧ s.1 16 3 ≤ 16) ∧ (∀ i : Nat, (i : Int) < s.1 16 3 → s.2.1 17 i ≠ none)
def c_sR (s : cS) : Prop := c_fo s (s.2.1 3 2) ∧ c_fo s (s.2.1 3 3) ∧ c_fo s (s.2.1 7 10) ∧ c_rp s (s.2.1 7 11)
def c_ok (s : cS) : Prop := c_rg s ∧ c_fx s ∧ (∀ a, c_Wa s a) ∧ c_sA s ∧ c_sR s
def c_E (s s' : cS) : Prop := cn s ≤ cn s' ∧ (∀ a, a < cn s → s'.2.2.1 a = s.2.2.1 a ∧ cN s' a = cN s a) ∧ (∀ a k, (cT s a = 1 ∨ cT s a = 7 ∨ cT s a = 9) → s.2.1 a k ≠ none → s'.2.1 a k ≠ none)
/-- the text, and where reading went wrong, are as before -/
def c_tx (s s' : cS) : Prop := s'.1 1 1 = s.1 1 1 ∧ (∀ i, s'.1 2 i = s.1 2 i) ∧ s'.1 0 6 = s.1 0 6
section C8
variable {X : Nat → mm_O} {Z : Nat → List Int32} {d : Nat} {s s' : cS} {a b : Nat}
theorem c_t (h : c_ok s) (p : Nat × Nat) (hp : p ∈ c_tgs) : cT s p.1 = p.2 := h.2.1.1 p hp
theorem c_r (h : c_ok s) (p : Nat × (Nat × Nat)) (hp : p ∈ c_rfs) : s.2.1 p.1 p.2.1 = some p.2.2 := h.2.1.2.1 p hp
theorem c_l (h : c_ok s) (p : Nat × Nat) (hp : p ∈ c_lns) : cN s p.1 = p.2 := h.2.1.2.2.1 p hp
theorem c_E_rf : c_E s s := ⟨Nat.le_refl _, fun _ _ => ⟨rfl, rfl⟩, fun _ _ _ h => h⟩
theorem c_E_T (h : c_E s s') {t : Nat} (ha : cT s a = t) (ht : t ≠ 99) : cT s' a = t := by
  obtain ⟨h1, h2⟩ := cT_lt ha ht
  have h3 := h.1
  unfold cn at h3
  unfold cT
  rw [if_pos (by omega), (h.2.1 a h1).1]
  exact h2
theorem c_E_N (h : c_E s s') {t : Nat} (ha : cT s a = t) (ht : t ≠ 99) : cN s' a = cN s a := (h.2.1 a (cT_lt ha ht).1).2
theorem c_E_tr {s2 : cS} (h : c_E s s') (g : c_E s' s2) : c_E s s2 := by
  refine ⟨Nat.le_trans h.1 g.1, fun a ha => ?_, fun a k ht hn => ?_⟩
  · obtain ⟨p1, p2⟩ := h.2.1 a ha
    obtain ⟨q1, q2⟩ := g.2.1 a (Nat.lt_of_lt_of_le ha h.1)
    exact ⟨q1.trans p1, q2.trans p2⟩
  · refine g.2.2 a k ?_ (h.2.2 a k ht hn)
    rcases ht with ht | ht | ht
    · exact Or.inl (c_E_T h ht (by decide))
    · exact Or.inr (Or.inl (c_E_T h ht (by decide)))
    · exact Or.inr (Or.inr (c_E_T h ht (by decide)))
theorem c_E_2 (h : s'.2 = s.2) : c_E s s' := ⟨by unfold cn; rw [h]; exact Nat.le_refl _, fun a _ => ⟨by rw [h], c_N2 h⟩, fun a k _ hn => by rw [h]; exact hn⟩
/-- only numbers have changed -/
theorem c_ok_A (h : c_ok s) (h2 : s'.2 = s.2) (hg : c_rg s') (hB : ∀ a b, cT s a = 1 → s.2.1 a 0 = some b → 0 ≤ s'.1 a 1 ∧ s'.1 a 1 ≤ cN s b) (hs : c_sA s') : c_ok s' := by
  obtain ⟨-, ⟨f1, f2, f3, f4⟩, w, -, r⟩ := h
  have eT : cT s' = cT s := funext (fun _ => c_T2 h2)
  have eN : cN s' = cN s := funext (fun _ => c_N2 h2)
  refine ⟨hg, ⟨by rw [eT]; exact f1, by rw [h2]; exact f2, by rw [eN]; exact f3, by unfold cn at f4 ⊢; rw [h2]; exact f4⟩, fun a => ?_, hs, ?_⟩
  · obtain ⟨w1, w2⟩ := w a
    unfold c_Wa c_fo c_rp c_un at *
    rw [eT, eN, h2]
    refine ⟨fun ha b hb => ⟨(w1 ha b hb).1, hB a b ha hb⟩, w2⟩
  · unfold c_sR c_fo c_rp at *
    rw [eT, h2]
    exact r
theorem c_ok_By (h : c_ok s) {p : Nat × (Nat × Nat)} (hp : p ∈ c_rfs) (hk : p.2.1 = 0) (ht : (p.1, 1) ∈ c_tgs) : c_By s p.1 p.2.2 := by
  have e := c_r h p hp
  rw [hk] at e
  have t := c_t h _ ht
  obtain ⟨w1, w2⟩ := (h.2.2.1 p.1).1 t _ e
  exact ⟨t, e, w1, w2, (h.2.2.1 p.2.2).2.1 w1⟩
theorem c_ok_mf (h : c_ok s) : c_mf s := ⟨⟨c_t h (19, 5) (by decide), c_r h (19, 0, 20) (by decide), c_ok_By h (p := (20, 0, 21)) (by decide) rfl (by decide)⟩, ⟨c_r h (19, 1, 22) (by decide), c_t h (22, 20) (by decide), c_l h (22, 120) (by decide)⟩, ⟨c_r h (19, 3, 23) (by decide), c_t h (23, 20) (by decide), c_l h (23, 24) (by decide)⟩, ⟨c_r h (19, 4, 24) (by decide), c_t h (24, 20) (by decide), c_l h (24, 24) (by decide)⟩⟩
theorem c_sA_of (h : c_sA s) (e1 : s'.1 3 1 = s.1 3 1) (e2 : s'.1 5 1 = s.1 5 1) (e3 : s'.1 7 5 = s.1 7 5) (e4 : s'.1 7 8 = s.1 7 8) (e5 : s'.1 7 9 = s.1 7 9) (e6 : s'.1 16 3 = s.1 16 3) (e7 : s'.2.1 17 = s.2.1 17) : c_sA s' := by
  unfold c_sA at *
  rw [e1, e2, e3, e4, e5, e6, e7]
  exact h
theorem c_ok_MM (h : c_ok s) (hm : c_MM s s') : c_ok s' ∧ c_E s s' ∧ c_tx s s' := by
  obtain ⟨m1, m2, m3⟩ := hm
  refine ⟨c_ok_A h m1 m3 (fun a b ha hb => ?_) (c_sA_of h.2.2.2.1 (m2 3 1 (by decide)) (m2 5 1 (by decide)) (m2 7 5 (by decide)) (m2 7 8 (by decide)) (m2 7 9 (by decide)) (m2 16 3 (by decide)) (by rw [m1])), c_E_2 m1, m2 1 1 (by decide), fun i => m2 2 i (by decide), m2 0 6 (by decide)⟩
  rw [m2 a 1 (fun e => by
    have t19 := c_t h (19, 5) (by decide)
    have t22 := c_t h (22, 20) (by decide)
    have t23 := c_t h (23, 20) (by decide)
    have t24 := c_t h (24, 20) (by decide)
    rcases e with e | e | e | e <;> rw [e] at ha
    · rw [t19] at ha; exact absurd ha (by decide)
    · rw [t22] at ha; exact absurd ha (by decide)
    · rw [t23] at ha; exact absurd ha (by decide)
    · rw [t24] at ha; exact absurd ha (by decide))]
  exact ((h.2.2.1 a).1 ha b hb).2
/-- a Bytes has changed -/
theorem c_ok_BM (h : c_ok s) (hb : c_By s a b) (hm : c_BM s a b s') : c_ok s' ∧ c_E s s' := by
  obtain ⟨m1, m2, m3, m4⟩ := hm
  have nb : ∀ x t, cT s x = t → t ≠ 20 → x ≠ b := fun x t hx ht e => by
    have := hb.2.2.1
    rw [← e, hx] at this
    exact ht this
  have na : ∀ x t, cT s x = t → t ≠ 1 → x ≠ a := fun x t hx ht e => by
    have := hb.1
    rw [← e, hx] at this
    exact ht this
  have ee : ∀ (p : Nat × Nat), p ∈ c_tgs → p.2 ≠ 20 → p.2 ≠ 1 → ∀ i, s'.1 p.1 i = s.1 p.1 i := fun p hp h20 h1 i => m2 _ _ (nb _ _ (c_t h p hp) h20) (fun e => na _ _ (c_t h p hp) h1 e.1)
  refine ⟨c_ok_A h m1 m3 (fun x y hx hy => ?_) (c_sA_of h.2.2.2.1 (ee (3, 6) (by decide) (by decide) (by decide) 1) (ee (5, 8) (by decide) (by decide) (by decide) 1) (ee (7, 2) (by decide) (by decide) (by decide) 5) (ee (7, 2) (by decide) (by decide) (by decide) 8) (ee (7, 2) (by decide) (by decide) (by decide) 9) (ee (16, 4) (by decide) (by decide) (by decide) 3) (by rw [m1])), c_E_2 m1⟩
  by_cases e : x = a
  · subst e
    have : y = b := by
      have := hb.2.1
      rw [hy] at this
      simpa using this
    rw [this]
    exact m4
  · rw [m2 x 1 (nb _ _ hx (by decide)) (fun q => e q.1)]
    exact ((h.2.2.1 x).1 hx y hy).2
/-! calls that look only -/
theorem cg12 (hd : 6 ≤ d) (h : c_ok s) : CG X Z d 12 [kQ (some 0)] s (fun r s' => r = .inl (some (kI (s.1 0 6))) ∧ s' = s) := by
  refine c_G_of (L := [some (kQ (some 0))]) (by rw [nl12]; exact Nat.le_of_ble_eq_true rfl) (by rw [nl12]; rfl) ?_
  exact c_at nb12_0 hd rfl ⟨0, rfl, c_t h (0, 0) (by decide), rfl, rfl⟩
theorem cg19 (hd : 6 ≤ d) (h : c_ok s) : CG X Z d 19 [kQ (some 0)] s (fun r s' => (∃ x, r = .inl (some (kI x))) ∧ s' = s) := by
  refine c_G_of (L := [some (kQ (some 0))]) (by rw [nl19]; exact Nat.le_of_ble_eq_true rfl) (by rw [nl19]; rfl) ?_
  exact c_at nb19_0 hd rfl ⟨0, rfl, c_t h (0, 0) (by decide), ⟨_, rfl⟩, rfl⟩
theorem cg20 (hd : 6 ≤ d) (h : c_ok s) {k : Int} (hk : n_rng k) : CG X Z (d + 2) 20 [kQ (some 0), kI k] s (fun r s' => (∃ x, r = .inl (some (kI x))) ∧ s' = s) := by
  have hm := c_ok_mf h
  refine c_G_of (L := [some (kQ (some 0)), some (kI k)]) (by rw [nl20]; exact Nat.le_of_ble_eq_true rfl) (by rw [nl20]; rfl) ?_
  refine c_at nb20_0 (by omega) rfl ⟨0, rfl, c_t h (0, 0) (by decide), 19, c_r h (0, 5, 19) (by decide), hm.1.1, ?_⟩
  show wc Z _ _ _ _ _ [kI k, kQ (s.2.1 19 0)] s
  rw [hm.1.2.1]
  refine c_iv (d := d + 1) (a := 20) (vs := [kQ (some 20), kI k]) (r := []) nn15 (by simp) rfl nc15 hm.1.2.2.1 (by decide) (cg15 hd hm.1.2.2 h.1 hk) (fun r s' hr => ?_)
  obtain ⟨⟨x, hx, -⟩, hs⟩ := hr
  rw [hx, hs]
  exact ⟨⟨x, rfl⟩, rfl⟩
theorem cg21 (hd : 6 ≤ d) (h : c_ok s) : CG X Z (d + 1) 21 [kQ (some 0)] s (fun r s' => (∃ x, r = .inl (some (kI x))) ∧ c_MM s s') := by
  have hm := c_ok_mf h
  have e5 := c_r h (0, 5, 19) (by decide)
  refine c_G_of (L := [some (kQ (some 0))]) (by rw [nl21]; exact Nat.le_of_ble_eq_true rfl) (by rw [nl21]; rfl) ?_
  refine c_at nb21_0 (by omega) rfl ⟨0, rfl, c_t h (0, 0) (by decide), 19, e5, hm.1.1, h.1 _ _, fun _ => ?_, fun _ => ⟨Or.inl rfl, ⟨0, rfl⟩, c_MM_rf h.1⟩⟩
  refine c_at nb21_12 (by omega) rfl ⟨0, rfl, c_t h (0, 0) (by decide), ?_⟩
  show wc Z _ _ _ _ _ [kQ (s.2.1 0 5)] s
  rw [show s.2.1 0 5 = some 19 from e5]
  refine c_iv (a := 19) (vs := [kQ (some 19)]) (r := []) nn22 (by simp) rfl nc22 hm.1.1 (by decide) (cg22 hd hm.1.1 h.1) (fun r s' hr => ?_)
  rw [hr.1]
  exact ⟨Or.inr rfl, ⟨1, rfl⟩, hr.2⟩
theorem cg23 (hd : 6 ≤ d) (h : c_ok s) {k : Int} (hk : n_rng k) : CG X Z d 23 [kQ (some 0), kI k] s (fun r s' => (∃ x, r = .inl (some (kI x))) ∧ s' = s) := by
  have hm := c_ok_mf h
  have e5 := c_r h (0, 5, 19) (by decide)
  have t0 := c_t h (0, 0) (by decide)
  have r : ∀ k : Int, 0 ≤ k ∧ k < 100 → n_rng k := fun k hk => ⟨by omega, by omega⟩
  refine c_G_of (L := [some (kQ (some 0)), some (kI k)]) (by rw [nl23]; exact Nat.le_of_ble_eq_true rfl) (by rw [nl23]; rfl) ?_
  exact c_at nb23_0 hd rfl ⟨hk, r _ (by decide), fun _ => c_at nb23_40 hd rfl ⟨0, rfl, t0, 19, e5, hm.1.1, ⟨_, rfl⟩, rfl⟩, fun _ => ⟨r _ (by decide), fun _ => c_at nb23_48 hd rfl ⟨0, rfl, t0, 19, e5, hm.1.1, ⟨_, rfl⟩, rfl⟩, fun _ => ⟨r _ (by decide), fun _ => c_at nb23_56 hd rfl ⟨0, rfl, t0, 19, e5, hm.1.1, ⟨_, rfl⟩, rfl⟩, fun _ => ⟨r _ (by decide), fun _ => c_at nb23_64 hd rfl ⟨0, rfl, t0, 19, e5, hm.1.1, ⟨_, rfl⟩, rfl⟩, fun _ => ⟨r _ (by decide), fun _ => c_at nb23_72 hd rfl ⟨0, rfl, t0, 19, e5, hm.1.1, ⟨_, rfl⟩, rfl⟩, fun _ => ⟨r _ (by decide), fun _ => c_at nb23_80 hd rfl ⟨0, rfl, t0, 19, e5, hm.1.1, ⟨_, rfl⟩, rfl⟩, fun _ => c_at nb23_88 hd rfl ⟨⟨_, rfl⟩, rfl⟩⟩⟩⟩⟩⟩⟩
theorem cg24 (hd : 6 ≤ d) (h : c_ok s) {k : Int} : CG X Z (d + 1) 24 [kQ (some 0), kI k] s (fun r s' => (∃ x, r = .inl (some (kI x))) ∧ s' = s) := by
  have hm := c_ok_mf h
  refine c_G_of (L := [some (kQ (some 0)), some (kI k)]) (by rw [nl24]; exact Nat.le_of_ble_eq_true rfl) (by rw [nl24]; rfl) ?_
  refine c_at nb24_0 (by omega) rfl ⟨0, rfl, c_t h (0, 0) (by decide), ?_⟩
  show wc Z _ _ _ _ _ [kI k, kQ (s.2.1 0 5)] s
  rw [show s.2.1 0 5 = some 19 from c_r h (0, 5, 19) (by decide)]
  refine c_iv (a := 19) (vs := [kQ (some 19), kI k]) (r := []) nn25 (by simp) rfl nc25 hm.1.1 (by decide) (cg25 hd hm h.1) (fun r s' hr => ?_)
  obtain ⟨⟨x, hx, -⟩, hs⟩ := hr
  rw [hx, hs]
  exact ⟨⟨x, rfl⟩, rfl⟩
theorem cg26 (hd : 6 ≤ d) (h : c_ok s) : CG X Z (d + 1) 26 [kQ (some 0)] s (fun r s' => (∃ x, r = .inl (some (kI x))) ∧ s' = s) := by
  have hm := c_ok_mf h
  have e5 := c_r h (0, 5, 19) (by decide)
  refine c_G_of (L := [some (kQ (some 0))]) (by rw [nl26]; exact Nat.le_of_ble_eq_true rfl) (by rw [nl26]; rfl) ?_
  refine c_at nb26_0 (by omega) rfl ⟨0, rfl, c_t h (0, 0) (by decide), 0, rfl, c_t h (0, 0) (by decide), 19, e5, hm.1.1, ?_⟩
  show wc Z _ _ _ _ _ [kI (s.1 19 2 - 1), kQ (s.2.1 0 5)] s
  rw [show s.2.1 0 5 = some 19 from e5]
  refine c_iv (a := 19) (vs := [kQ (some 19), kI (s.1 19 2 - 1)]) (r := []) nn25 (by simp) rfl nc25 hm.1.1 (by decide) (cg25 hd hm h.1) (fun r s' hr => ?_)
  obtain ⟨⟨x, hx, -⟩, hs⟩ := hr
  rw [hx, hs]
  exact ⟨⟨x, rfl⟩, rfl⟩
/-- run: it throws, or makes steps -/
theorem cg97 (hd : 6 ≤ d) (h : c_ok s) {n : Int} (hn : n_rng n) (hq : 1 ≤ (cq s).1 ∧ 6 ≤ (cq s).2) : CG X Z (d + 5) 97 [kQ (some 0), kI n] s (fun r s' => (r = .inr 0 ∧ s' = c_q s 1 6) ∨ ((∃ x, r = .inl (some (kI x))) ∧ c_MM s s')) := by
  have hm := c_ok_mf h
  refine c_G_of (L := [some (kQ (some 0)), some (kI n)]) (by rw [nl97]; exact Nat.le_of_ble_eq_true rfl) (by rw [nl97]; rfl) ?_
  have h11 : CP X Z (d + 5) 97 11 [some (kQ (some 0)), some (kI n)] [] s (fun r s' => (r = .inr 0 ∧ s' = c_q s 1 6) ∨ ((∃ x, r = .inl (some (kI x))) ∧ c_MM s s')) := c_at nb97_11 (by omega) rfl ⟨by simp, hq.1, hq.2, Or.inl ⟨rfl, rfl⟩⟩
  refine c_at nb97_0 (by omega) rfl ⟨hn, fun _ => h11, fun z => ⟨hn, ⟨by decide, by decide⟩, fun z2 => ?_, fun _ => h11⟩⟩
  refine c_at nb97_21 (by omega) rfl ⟨0, rfl, c_t h (0, 0) (by decide), ?_⟩
  show wc Z _ _ _ _ _ [kI n, kQ (s.2.1 0 5)] s
  rw [show s.2.1 0 5 = some 19 from c_r h (0, 5, 19) (by decide)]
  refine c_iv (d := d + 4) (a := 19) (vs := [kQ (some 19), kI n]) (r := []) nn98 (by simp) rfl nc98 hm.1.1 (by decide) (cg98 hd hm h.1 hn z2) (fun r s' hr => ?_)
  obtain ⟨⟨x, hx⟩, hs⟩ := hr
  rw [hx]
  exact Or.inr ⟨⟨x, rfl⟩, hs⟩
theorem c_ok_q (h : c_ok s) {x y : Nat} : c_ok (c_q s x y) ∧ c_E s (c_q s x y) ∧ c_tx s (c_q s x y) := ⟨h, ⟨Nat.le_refl _, fun _ _ => ⟨rfl, rfl⟩, fun _ _ _ h => h⟩, rfl, fun _ => rfl, rfl⟩
/-- a number of a fixed object that nobody minds -/
theorem c_ok_u (h : c_ok s) {k : Nat} {x : Int} (hx : n_rng x) {t : Nat} (ha : cT s a = t) (ht : t ≠ 1) (hs : c_sA (c_uA s a k x)) : c_ok (c_uA s a k x) := by
  refine c_ok_A h rfl (c_rg_uA h.1 hx) (fun y b hy hb => ?_) hs
  have : y ≠ a := fun e => by rw [e, ha] at hy; exact ht hy
  show 0 ≤ n_updA s.1 a k x y 1 ∧ n_updA s.1 a k x y 1 ≤ _
  rw [n_ua_ne this]
  exact ((h.2.2.1 y).1 hy b hb).2
theorem cg17 (hd : 6 ≤ d) (h : c_ok s) : CG X Z (d + 1) 17 [kQ (some 0)] s (fun r s' => r = .inl none ∧ s' = c_uA s 5 1 0) := by
  have e0 : c_w 0 = 0 := by decide
  have t5 := c_t h (5, 8) (by decide)
  have h18 : CG X Z d 18 [kQ (some 5)] s (fun r s' => r = .inl none ∧ s' = c_uA s 5 1 0) := by
    refine c_G_of (L := [some (kQ (some 5))]) (by rw [nl18]; exact Nat.le_of_ble_eq_true rfl) (by rw [nl18]; rfl) ?_
    refine c_at nb18_0 hd rfl ⟨5, rfl, t5, rfl, rfl, ?_⟩
    show c_uA s 5 1 (c_w 0) = _
    rw [e0]
  refine c_G_of (L := [some (kQ (some 0))]) (by rw [nl17]; exact Nat.le_of_ble_eq_true rfl) (by rw [nl17]; rfl) ?_
  refine c_at nb17_0 (by omega) rfl ⟨0, rfl, c_t h (0, 0) (by decide), ?_⟩
  show wc Z _ _ _ _ _ [kQ (s.2.1 0 2)] s
  rw [show s.2.1 0 2 = some 5 from c_r h (0, 2, 5) (by decide)]
  refine c_iv (a := 5) (vs := [kQ (some 5)]) (r := []) nn18 (by simp) rfl nc18 t5 (by decide) h18 (fun r s' hr => ?_)
  rw [hr.1, hr.2]
  exact ⟨rfl, rfl, rfl⟩
theorem c_ok_clr (h : c_ok s) : c_ok (c_uA s 5 1 0) ∧ c_E s (c_uA s 5 1 0) ∧ c_tx s (c_uA s 5 1 0) := by
  obtain ⟨a1, a2, a3, a4, a5, a6⟩ := h.2.2.2.1
  exact ⟨c_ok_u h ⟨by decide, by decide⟩ (c_t h (5, 8) (by decide)) (by decide) ⟨a1, ⟨by show (0 : Int) ≤ 0; decide, by show (0 : Int) ≤ 16; decide⟩, a3, a4, a5, a6⟩, c_E_2 rfl, rfl, fun _ => rfl, rfl⟩
/-- a unit by its number -/
theorem cg14 (hd : 6 ≤ d) (h : c_ok s) {k : Int} (hk : n_rng k) : CG X Z d 14 [kQ (some 5), kI k] s (fun r s' => (∃ o, r = .inl (some (kQ o)) ∧ ∀ u, o = some u → c_un s u) ∧ s' = s) := by
  have t5 := c_t h (5, 8) (by decide)
  have e6 : s.2.1 5 0 = some 6 := c_r h (5, 0, 6) (by decide)
  have t6 := c_t h (6, 31) (by decide)
  have l6 : cN s 6 = 16 := c_l h (6, 16) (by decide)
  have hc := h.2.2.2.1.2.1
  have h22 : ∀ o : Option Nat, (∀ u, o = some u → c_un s u) → CP X Z d 14 22 [some (kQ (some 5)), some (kI k)] [kQ o] s (fun r s' => (∃ o, r = .inl (some (kQ o)) ∧ ∀ u, o = some u → c_un s u) ∧ s' = s) := fun o ho => c_at nb14_22 hd rfl ⟨⟨o, rfl, ho⟩, rfl⟩
  have h21 : CP X Z d 14 21 [some (kQ (some 5)), some (kI k)] [] s (fun r s' => (∃ o, r = .inl (some (kQ o)) ∧ ∀ u, o = some u → c_un s u) ∧ s' = s) := c_at nb14_21 hd rfl (h22 none (fun u hu => by cases hu))
  refine c_G_of (L := [some (kQ (some 5)), some (kI k)]) (by rw [nl14]; exact Nat.le_of_ble_eq_true rfl) (by rw [nl14]; rfl) ?_
  exact c_at nb14_0 hd rfl ⟨hk, fun _ => h21, fun z => ⟨5, rfl, t5, hk, h.1 _ _, fun _ => h21, fun z2 => ⟨5, rfl, t5, 6, 1, e6, t6, by decide, ⟨by omega, by rw [l6]; omega, by omega⟩, h22 _ (fun u hu => (h.2.2.1 6).2.2.2.2.2.2 t6 _ u hu)⟩⟩⟩
theorem cg13 (hd : 6 ≤ d) (h : c_ok s) {k u : Int} (hk : n_rng k) (hu : n_rng u) : CG X Z (d + 2) 13 [kQ (some 0), kI u, kI k] s (fun r s' => (∃ x, r = .inl (some (kI x))) ∧ s' = s) := by
  refine c_G_of (L := [some (kQ (some 0)), some (kI u), some (kI k), none]) (by rw [nl13]; exact Nat.le_of_ble_eq_true rfl) (by rw [nl13]; rfl) ?_
  refine c_at nb13_0 (by omega) rfl ⟨0, rfl, c_t h (0, 0) (by decide), ?_⟩
  show wc Z _ _ _ _ _ [kI u, kQ (s.2.1 0 2)] s
  rw [show s.2.1 0 2 = some 5 from c_r h (0, 2, 5) (by decide)]
  refine c_iv (d := d + 1) (a := 5) (vs := [kQ (some 5), kI u]) (r := []) nn14 (by simp) rfl nc14 (c_t h (5, 8) (by decide)) (by decide) (cg14 (by omega) h hu) (fun r s' hr => ?_)
  obtain ⟨⟨o, ho, hou⟩, hs⟩ := hr
  rw [ho, hs]
  have h33 : ∀ x : Int, CP X Z (d + 2) 13 33 [some (kQ (some 0)), some (kI u), some (kI k), some (kQ o)] [kI x] s (fun r s' => (∃ x, r = .inl (some (kI x))) ∧ s' = s) := fun x => c_at nb13_33 (by omega) rfl ⟨⟨x, rfl⟩, rfl⟩
  have h21 : CP X Z (d + 2) 13 21 [some (kQ (some 0)), some (kI u), some (kI k), some (kQ o)] [] s (fun r s' => (∃ x, r = .inl (some (kI x))) ∧ s' = s) := c_at nb13_21 (by omega) rfl (h33 _)
  refine ⟨fun _ => h21, fun z => ?_⟩
  cases ho2 : o with
  | none => exact absurd ho2 z
  | some w =>
    obtain ⟨w1, w2⟩ := hou w ho2
    subst ho2
    refine ⟨w, rfl, w1, h.1 _ _, ⟨by decide, by decide⟩, fun _ => ?_, fun _ => h21⟩
    obtain ⟨-, -, -, ⟨c, c1, c2, c3⟩, -⟩ := (h.2.2.1 w).2.2.2.2.1 w1 w2
    refine c_at nb13_25 (by omega) rfl ⟨w, rfl, w1, ?_⟩
    show wc Z _ _ _ _ _ [kI k, kQ (s.2.1 w 5)] s
    rw [c1]
    cases hc0 : s.2.1 c 0 with
    | none => exact absurd hc0 c3
    | some b =>
      obtain ⟨b1, b2⟩ := (h.2.2.1 c).1 c2 b hc0
      refine c_iv (d := d + 1) (a := c) (vs := [kQ (some c), kI k]) (r := []) nn15 (by simp) rfl nc15 c2 (by decide) (cg15 hd ⟨c2, hc0, b1, b2, (h.2.2.1 b).2.1 b1⟩ h.1 hk) (fun r s' hr => ?_)
      obtain ⟨⟨x, hx, -⟩, hs⟩ := hr
      rw [hx, hs]
      exact h33 x
end C8
