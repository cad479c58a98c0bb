/-! ROWS OF BYTES -/
def c_rg (s : cS) : Prop := ∀ a i, n_rng (s.1 a i)
/-- a Bytes at a with its row at b -/
def c_By (s : cS) (a b : Nat) : Prop := cT s a = 1 ∧ s.2.1 a 0 = some b ∧ cT s b = 20 ∧ (0 ≤ s.1 a 1 ∧ s.1 a 1 ≤ cN s b) ∧ cN s b < 99999
/-- only that Bytes has changed -/
def c_BM (s : cS) (a b : Nat) (s' : cS) : Prop := s'.2 = s.2 ∧ (∀ x i, x ≠ b → ¬ (x = a ∧ i = 1) → s'.1 x i = s.1 x i) ∧ c_rg s' ∧ (0 ≤ s'.1 a 1 ∧ s'.1 a 1 ≤ cN s b)
def c_put (s : cS) (a b : Nat) (v : Int) : cS := if s.1 a 1 < cN s b then c_uA (c_uA s b (s.1 a 1).toNat (c_w (v % 256))) a 1 (c_w ((c_uA s b (s.1 a 1).toNat (c_w (v % 256))).1 a 1 + 1)) else s
def c_r0 : cA := .inl none
section C4
variable {X : Nat → mm_O} {Z : Nat → List Int32} {d : Nat} {s s' : cS} {a b a2 b2 : Nat} {v k : Int}
theorem c_T2 (h : s'.2 = s.2) {x : Nat} : cT s' x = cT s x := by unfold cT; rw [h]
theorem c_N2 (h : s'.2 = s.2) {x : Nat} : cN s' x = cN s x := by unfold cN; rw [h]
theorem c_By_ne (h : c_By s a b) : a ≠ b := fun e => by
  have h1 := h.1
  have h2 := h.2.2.1
  rw [e, h2] at h1
  exact absurd h1 (by decide)
theorem c_BM_By (h : c_By s a b) (hm : c_BM s a b s') : c_By s' a b := by
  obtain ⟨h1, h2, h3, h4, h5⟩ := h
  obtain ⟨m1, m2, m3, m4⟩ := hm
  exact ⟨by rw [c_T2 m1]; exact h1, by rw [m1]; exact h2, by rw [c_T2 m1]; exact h3, by rw [c_N2 m1]; exact m4, by rw [c_N2 m1]; exact h5⟩
theorem c_BM_ot (h : c_By s a2 b2) (hm : c_BM s a b s') (hb : b2 ≠ b) (ha : a2 ≠ a) (hab : c_By s a b) : c_By s' a2 b2 ∧ s'.1 a2 1 = s.1 a2 1 := by
  obtain ⟨h1, h2, h3, h4, h5⟩ := h
  obtain ⟨m1, m2, m3, m4⟩ := hm
  have hne : a2 ≠ b := fun e => by
    have := hab.2.2.1
    rw [← e, h1] at this
    exact absurd this (by decide)
  have e := m2 a2 1 hne (fun q => ha q.1)
  exact ⟨⟨by rw [c_T2 m1]; exact h1, by rw [m1]; exact h2, by rw [c_T2 m1]; exact h3, by rw [c_N2 m1, e]; exact h4, by rw [c_N2 m1]; exact h5⟩, e⟩
theorem c_BM_tr {s2 : cS} (h : c_BM s a b s') (g : c_BM s' a b s2) : c_BM s a b s2 := by
  obtain ⟨h1, h2, h3, h4⟩ := h
  obtain ⟨g1, g2, g3, g4⟩ := g
  exact ⟨g1.trans h1, fun x i p q => (g2 x i p q).trans (h2 x i p q), g3, by rw [c_N2 h1] at g4; exact g4⟩
theorem c_BM_rf (h : c_By s a b) (hg : c_rg s) : c_BM s a b s := ⟨rfl, fun _ _ _ _ => rfl, hg, h.2.2.2.1⟩
theorem c_rg_uA {x : Int} {i : Nat} (hg : c_rg s) (hx : n_rng x) : c_rg (c_uA s a i x) := fun y j => by
  show n_rng (n_updA s.1 a i x y j)
  unfold n_updA
  split
  · exact hx
  · exact hg y j
theorem c_put_len (h : c_By s a b) : (c_put s a b v).1 a 1 = if s.1 a 1 < cN s b then s.1 a 1 + 1 else s.1 a 1 := by
  unfold c_put
  split
  · show n_updA (n_updA s.1 b _ _) a 1 (c_w (n_updA s.1 b _ _ a 1 + 1)) a 1 = _
    have := h.2.2.2
    rw [n_ua_eq, if_pos rfl, n_ua_ne (c_By_ne h), c_w_id ⟨by omega, by omega⟩]
  · rfl
theorem c_put_BM (h : c_By s a b) (hg : c_rg s) : c_BM s a b (c_put s a b v) := by
  have hl := c_put_len (v := v) h
  obtain ⟨h1, h2, h3, h4, h5⟩ := h
  refine ⟨?_, fun x i p q => ?_, fun x i => ?_, ?_⟩
  · unfold c_put
    split <;> rfl
  · unfold c_put
    split
    · show n_updA (n_updA s.1 b _ _) a 1 _ x i = _
      unfold n_updA
      rw [if_neg q, if_neg (fun e => p e.1)]
    · rfl
  · unfold c_put
    split
    · exact c_rg_uA (c_rg_uA hg (c_w_rg _)) (c_w_rg _) x i
    · exact hg x i
  · rw [hl]
    split <;> omega
theorem cg10 (hd : 6 ≤ d) (h : c_By s a b) : CG X Z d 10 [kQ (some a)] s (fun r s' => r = .inl (some (kI (cN s b - s.1 a 1))) ∧ s' = s) := by
  refine c_G_of (L := [some (kQ (some a))]) (by rw [nl10]; exact Nat.le_of_ble_eq_true rfl) (by rw [nl10]; rfl) ?_
  exact c_at nb10_0 hd rfl ⟨a, rfl, h.1, b, h.2.1, Or.inl h.2.2.1, a, rfl, h.1, rfl, rfl⟩
theorem cg43 (hd : 6 ≤ d) (ht : cT s a = 1) : CG X Z d 43 [kQ (some a)] s (fun r s' => r = .inl none ∧ s' = c_uA s a 1 0) := by
  have e0 : c_w 0 = 0 := by decide
  refine c_G_of (L := [some (kQ (some a))]) (by rw [nl43]; exact Nat.le_of_ble_eq_true rfl) (by rw [nl43]; rfl) ?_
  refine c_at nb43_0 hd rfl ⟨a, rfl, ht, rfl, rfl, ?_⟩
  show c_uA s a 1 (c_w 0) = _
  rw [e0]
theorem c_emp_BM (h : c_By s a b) (hg : c_rg s) : c_BM s a b (c_uA s a 1 0) := by
  refine ⟨rfl, fun x i p q => ?_, c_rg_uA hg ⟨by decide, by decide⟩, ?_⟩
  · show n_updA s.1 a 1 0 x i = _
    unfold n_updA
    rw [if_neg q]
  · show 0 ≤ n_updA s.1 a 1 0 a 1 ∧ n_updA s.1 a 1 0 a 1 ≤ _
    rw [n_ua_eq, if_pos rfl]
    omega
theorem cg11 (hd : 6 ≤ d) (h : c_By s a b) : CG X Z d 11 [kQ (some a), kI v] s (fun r s' => r = .inl none ∧ s' = c_put s a b v) := by
  obtain ⟨h1, h2, h3, h4, h5⟩ := h
  have h36 : ∀ t : cS, t = c_put s a b v → CP X Z d 11 36 [some (kQ (some a)), some (kI v)] [] t (fun r s' => r = .inl none ∧ s' = c_put s a b v) := fun t ht => c_at nb11_36 hd rfl ⟨rfl, rfl, ht⟩
  refine c_G_of (L := [some (kQ (some a)), some (kI v)]) (by rw [nl11]; exact Nat.le_of_ble_eq_true rfl) (by rw [nl11]; rfl) ?_
  refine c_at nb11_0 hd rfl ⟨a, rfl, h1, a, rfl, h1, b, h2, Or.inl h3, ⟨by omega, by omega⟩, ⟨by omega, by omega⟩, fun z => h36 s ?_, fun z => ⟨a, rfl, h1, a, rfl, h1, b, h2, h3, ⟨by omega, by omega, by omega⟩, a, rfl, h1, a, rfl, h1, h36 _ ?_⟩⟩
  · unfold c_put
    rw [if_neg (by omega)]
  · unfold c_put
    rw [if_pos (by omega)]
    rfl
theorem cg16 (hd : 6 ≤ d) (h : c_By s a b) (hg : c_rg s) (hk : n_rng k) : CG X Z d 16 [kQ (some a), kI k] s (fun r s' => r = .inl (some (kI (if 0 ≤ k ∧ k < s.1 a 1 then s.1 b k.toNat else -1))) ∧ s' = s) := by
  obtain ⟨h1, h2, h3, h4, h5⟩ := h
  have h22 : ∀ x : Int, x = (if 0 ≤ k ∧ k < s.1 a 1 then s.1 b k.toNat else -1) → CP X Z d 16 22 [some (kQ (some a)), some (kI k)] [kI x] s (fun r s' => r = .inl (some (kI (if 0 ≤ k ∧ k < s.1 a 1 then s.1 b k.toNat else -1))) ∧ s' = s) := fun x hx => c_at nb16_22 hd rfl ⟨by rw [hx], rfl⟩
  have h21 : ¬ (0 ≤ k ∧ k < s.1 a 1) → CP X Z d 16 21 [some (kQ (some a)), some (kI k)] [] s (fun r s' => r = .inl (some (kI (if 0 ≤ k ∧ k < s.1 a 1 then s.1 b k.toNat else -1))) ∧ s' = s) := fun hn => c_at nb16_21 hd rfl (h22 (-1) (by rw [if_neg hn]))
  refine c_G_of (L := [some (kQ (some a)), some (kI k)]) (by rw [nl16]; exact Nat.le_of_ble_eq_true rfl) (by rw [nl16]; rfl) ?_
  refine c_at nb16_0 hd rfl ⟨hk, fun z => h21 (by omega), fun z => ⟨a, rfl, h1, hk, hg _ _, fun z2 => h21 (by omega), fun z2 => ⟨a, rfl, h1, b, h2, h3, ⟨by omega, by omega, by omega⟩, h22 _ (by rw [if_pos ⟨by omega, by omega⟩])⟩⟩⟩
theorem cg15 (hd : 6 ≤ d) (h : c_By s a b) (hg : c_rg s) (hk : n_rng k) : CG X Z (d + 1) 15 [kQ (some a), kI k] s (fun r s' => (∃ x, r = .inl (some (kI x)) ∧ n_rng x) ∧ s' = s) := by
  have h17 : ∀ x : Int, n_rng x → CP X Z (d + 1) 15 17 [some (kQ (some a)), some (kI k)] [kI x] s (fun r s' => (∃ x, r = .inl (some (kI x)) ∧ n_rng x) ∧ s' = s) := fun x hx => c_at nb15_17 (by omega) rfl ⟨⟨x, rfl, hx⟩, rfl⟩
  refine c_G_of (L := [some (kQ (some a)), some (kI k)]) (by rw [nl15]; exact Nat.le_of_ble_eq_true rfl) (by rw [nl15]; rfl) ?_
  refine c_at nb15_0 (by omega) rfl ⟨hk, ⟨by decide, by decide⟩, fun z => ?_, fun z => ⟨a, rfl, h.1, h17 _ (hg _ _)⟩⟩
  refine c_at nb15_12 (by omega) rfl ?_
  refine c_iv (a := a) (vs := [kQ (some a), kI k]) (r := []) nn16 (by simp) rfl nc16 h.1 (by decide) (cg16 hd h hg hk) (fun r s' hr => ?_)
  rw [hr.1, hr.2]
  refine h17 _ ?_
  split
  · exact hg _ _
  · exact ⟨by decide, by decide⟩
theorem cg84 (hd : 6 ≤ d) (h : c_By s a b) (hg : c_rg s) : CG X Z (d + 1) 84 [kQ (some a), kI v] s (fun r s' => r = .inl none ∧ c_BM s a b s') := by
  refine c_G_of (L := [some (kQ (some a)), some (kI v)]) (by rw [nl84]; exact Nat.le_of_ble_eq_true rfl) (by rw [nl84]; rfl) ?_
  refine c_at nb84_0 (by omega) rfl ?_
  refine c_iv (a := a) (vs := [kQ (some a), kI (n_shr v 8)]) (r := []) nn11 (by simp) rfl nc11 h.1 (by decide) (cg11 hd h) (fun r s' hr => ?_)
  rw [hr.1, hr.2]
  have m1 := c_put_BM (v := n_shr v 8) h hg
  have h1 := c_BM_By h m1
  refine c_iv (a := a) (vs := [kQ (some a), kI v]) (r := []) nn11 (by simp) rfl nc11 h1.1 (by decide) (cg11 hd h1) (fun r s' hr => ?_)
  rw [hr.1, hr.2]
  exact ⟨rfl, rfl, c_BM_tr m1 (c_put_BM h1 m1.2.2.1)⟩
/-- another row of bytes is put behind -/
theorem c_l79 (hd : 6 ≤ d) (hne : a2 ≠ a ∧ b2 ≠ b) : ∀ (q : Nat) (t : cS) (k : Int), c_BM s a b t → c_By t a b → c_By t a2 b2 → c_rg t → 0 ≤ k → k + q = t.1 a2 1 → CP X Z (d + 1) 79 2 [some (kQ (some a)), some (kQ (some a2)), some (kI k)] [] t (fun r s' => r = .inl none ∧ c_BM s a b s') := by
  intro q
  induction q with
  | zero =>
    intro t k hm h1 h2 hg hk0 hk
    have := h2.2.2.2.1
    have := h2.2.2.2.2
    refine c_at nb79_2 (by omega) rfl ⟨a2, rfl, h2.1, ⟨by omega, by omega⟩, hg _ _, fun _ => c_at nb79_25 (by omega) rfl ⟨rfl, rfl, hm⟩, fun z => by omega⟩
  | succ q ih =>
    intro t k hm h1 h2 hg hk0 hk
    have := h2.2.2.2.1
    have := h2.2.2.2.2
    refine c_at nb79_2 (by omega) rfl ⟨a2, rfl, h2.1, ⟨by omega, by omega⟩, hg _ _, fun z => by omega, fun _ => ?_⟩
    refine c_iv (a := a2) (vs := [kQ (some a2), kI k]) (r := [kQ (some a)]) nn16 (by simp) rfl nc16 h2.1 (by decide) (cg16 hd h2 hg ⟨by omega, by omega⟩) (fun r s' hr => ?_)
    rw [hr.1, hr.2]
    generalize (if 0 ≤ k ∧ k < t.1 a2 1 then t.1 b2 k.toNat else -1) = v
    refine c_iv (a := a) (vs := [kQ (some a), kI v]) (r := []) nn11 (by simp) rfl nc11 h1.1 (by decide) (cg11 hd h1) (fun r s' hr => ?_)
    rw [hr.1, hr.2]
    have m1 := c_put_BM (v := v) h1 hg
    obtain ⟨o1, o2⟩ := c_BM_ot h2 m1 hne.2 hne.1 h1
    exact ih (c_put t a b v) (k + 1) (c_BM_tr hm m1) (c_BM_By h1 m1) o1 m1.2.2.1 (by omega) (by rw [o2]; omega)
theorem cg79 (hd : 6 ≤ d) (hne : a2 ≠ a ∧ b2 ≠ b) (h1 : c_By s a b) (h2 : c_By s a2 b2) (hg : c_rg s) : CG X Z (d + 1) 79 [kQ (some a), kQ (some a2)] s (fun r s' => r = .inl none ∧ c_BM s a b s') := by
  have := h2.2.2.2.1
  refine c_G_of (L := [some (kQ (some a)), some (kQ (some a2)), none]) (by rw [nl79]; exact Nat.le_of_ble_eq_true rfl) (by rw [nl79]; rfl) ?_
  refine c_at nb79_0 (by omega) rfl ?_
  exact c_l79 hd hne (s.1 a2 1).toNat s 0 (c_BM_rf h1 hg) h1 h2 hg (by omega) (by omega)
/-- a name is put behind -/
theorem c_l83b (hd : 6 ≤ d) {nm lt : Int} : ∀ (q : Nat) (t : cS) (k : Int), c_BM s a b t → c_By t a b → c_rg t → (k < 8 * (q : Int) ∧ -100 ≤ k ∧ k ≤ 1000) → CP X Z (d + 1) 83 45 [some (kQ (some a)), some (kI nm), some (kI lt), some (kI k)] [] t (fun r s' => r = .inl none ∧ c_BM s a b s') := by
  intro q
  induction q with
  | zero =>
    intro t k hm h1 hg hk
    exact c_at nb83_45 (by omega) rfl ⟨⟨by omega, by omega⟩, fun _ => c_at nb83_62 (by omega) rfl ⟨rfl, rfl, hm⟩, fun z => by omega⟩
  | succ q ih =>
    intro t k hm h1 hg hk
    refine c_at nb83_45 (by omega) rfl ⟨⟨by omega, by omega⟩, fun _ => c_at nb83_62 (by omega) rfl ⟨rfl, rfl, hm⟩, fun z => ?_⟩
    refine c_iv (a := a) (vs := [kQ (some a), kI (n_shr nm k)]) (r := []) nn11 (by simp) rfl nc11 h1.1 (by decide) (cg11 hd h1) (fun r s' hr => ?_)
    rw [hr.1, hr.2]
    have m1 := c_put_BM (v := n_shr nm k) h1 hg
    have := ih (c_put t a b (n_shr nm k)) (k + -8) (c_BM_tr hm m1) (c_BM_By h1 m1) m1.2.2.1 (by omega)
    exact this
theorem cg83 (hd : 6 ≤ d) {nm : Int} (h : c_By s a b) (hg : c_rg s) : CG X Z (d + 1) 83 [kQ (some a), kI nm] s (fun r s' => r = .inl none ∧ c_BM s a b s') := by
  have h33 : ∀ (lt : Int) (o : Option cV), (0 ≤ lt ∧ lt ≤ 100) → CP X Z (d + 1) 83 33 [some (kQ (some a)), some (kI nm), some (kI lt), o] [] s (fun r s' => r = .inl none ∧ c_BM s a b s') := by
    intro lt o hl
    refine c_at nb83_33 (by omega) rfl ?_
    refine c_iv (a := a) (vs := [kQ (some a), kI lt]) (r := []) nn11 (by simp) rfl nc11 h.1 (by decide) (cg11 hd h) (fun r s' hr => ?_)
    rw [hr.1, hr.2]
    have m1 := c_put_BM (v := lt) h hg
    exact c_l83b hd 200 _ (8 * (lt - 1)) m1 (c_BM_By h m1) m1.2.2.1 (by omega)
  have h5 : ∀ (q : Nat) (k lt : Int), (k < 8 * (q : Int) ∧ -100 ≤ k ∧ k ≤ 100) → (0 ≤ lt ∧ lt + q ≤ 100) → CP X Z (d + 1) 83 5 [some (kQ (some a)), some (kI nm), some (kI lt), some (kI k)] [] s (fun r s' => r = .inl none ∧ c_BM s a b s') := by
    intro q
    induction q with
    | zero =>
      intro k lt hk hl
      exact c_at nb83_5 (by omega) rfl ⟨⟨by omega, by omega⟩, fun _ => h33 lt _ ⟨by omega, by omega⟩, fun z => by omega⟩
    | succ q ih =>
      intro k lt hk hl
      have h25 : 0 ≤ k → ∀ y : Int, (y = 0 ∨ y = 1) → CP X Z (d + 1) 83 25 [some (kQ (some a)), some (kI nm), some (kI lt), some (kI k)] [kI y, kI lt] s (fun r s' => r = .inl none ∧ c_BM s a b s') := by
        intro hk0 y hy
        refine c_at nb83_25 (by omega) rfl ?_
        exact ih (k + -8) (lt + y) (by omega) (by omega)
      refine c_at nb83_5 (by omega) rfl ⟨⟨by omega, by omega⟩, fun _ => h33 lt _ ⟨by omega, by omega⟩, fun z => ⟨⟨?_, ?_⟩, fun _ => c_at nb83_24 (by omega) rfl (h25 (by omega) 1 (Or.inr rfl)), fun _ => h25 (by omega) 0 (Or.inl rfl)⟩⟩
      · show -2147483648 ≤ n_shr nm k % 256
        omega
      · show n_shr nm k % 256 < 2147483648
        omega
  refine c_G_of (L := [some (kQ (some a)), some (kI nm), none, none]) (by rw [nl83]; exact Nat.le_of_ble_eq_true rfl) (by rw [nl83]; rfl) ?_
  refine c_at nb83_0 (by omega) rfl ?_
  exact h5 4 24 0 (by omega) (by omega)
/-- two bytes are set, or read -/
theorem cg71 (hd : 6 ≤ d) (h : c_By s a b) (hg : c_rg s) (hk : n_rng k) : CG X Z d 71 [kQ (some a), kI k, kI v] s (fun r s' => r = .inl none ∧ c_BM s a b s' ∧ s'.1 a 1 = s.1 a 1) := by
  have hne := c_By_ne h
  obtain ⟨h1, h2, h3, h4, h5⟩ := h
  have h41 : ∀ t : cS, c_BM s a b t → t.1 a 1 = s.1 a 1 → CP X Z d 71 41 [some (kQ (some a)), some (kI k), some (kI v)] [] t (fun r s' => r = .inl none ∧ c_BM s a b s' ∧ s'.1 a 1 = s.1 a 1) := fun t m e => c_at nb71_41 hd rfl ⟨rfl, rfl, m, e⟩
  have h0 := h41 s (c_BM_rf ⟨h1, h2, h3, h4, h5⟩ hg) rfl
  refine c_G_of (L := [some (kQ (some a)), some (kI k), some (kI v)]) (by rw [nl71]; exact Nat.le_of_ble_eq_true rfl) (by rw [nl71]; rfl) ?_
  refine c_at nb71_0 hd rfl ⟨hk, fun _ => h0, fun z => ⟨a, rfl, h1, hk, ⟨by omega, by omega⟩, fun _ => h0, fun z2 => ⟨a, rfl, h1, b, h2, h3, ⟨by omega, by omega, by omega⟩, a, rfl, h1, b, h2, h3, ⟨by omega, ?_, by omega⟩, h41 _ ⟨rfl, fun x i p q => ?_, c_rg_uA (c_rg_uA hg (c_w_rg _)) (c_w_rg _), ?_⟩ ?_⟩⟩⟩
  · show k + 1 < cN s b
    omega
  · show n_updA (n_updA s.1 b _ _) b _ _ x i = _
    rw [n_ua_ne p, n_ua_ne p]
  · show 0 ≤ n_updA (n_updA s.1 b _ _) b _ _ a 1 ∧ n_updA (n_updA s.1 b _ _) b _ _ a 1 ≤ _
    rw [n_ua_ne hne, n_ua_ne hne]
    exact h4
  · show n_updA (n_updA s.1 b _ _) b _ _ a 1 = _
    rw [n_ua_ne hne, n_ua_ne hne]
theorem cg94 (hd : 6 ≤ d) (h : c_By s a b) (hg : c_rg s) (hk : n_rng k) : CG X Z d 94 [kQ (some a), kI k] s (fun r s' => (∃ x, r = .inl (some (kI x)) ∧ n_rng x) ∧ s' = s) := by
  obtain ⟨h1, h2, h3, h4, h5⟩ := h
  have h36 : ∀ x : Int, n_rng x → CP X Z d 94 36 [some (kQ (some a)), some (kI k)] [kI x] s (fun r s' => (∃ x, r = .inl (some (kI x)) ∧ n_rng x) ∧ s' = s) := fun x hx => c_at nb94_36 hd rfl ⟨⟨x, rfl, hx⟩, rfl⟩
  have h35 : CP X Z d 94 35 [some (kQ (some a)), some (kI k)] [] s (fun r s' => (∃ x, r = .inl (some (kI x)) ∧ n_rng x) ∧ s' = s) := c_at nb94_35 hd rfl (h36 _ ⟨by decide, by decide⟩)
  refine c_G_of (L := [some (kQ (some a)), some (kI k)]) (by rw [nl94]; exact Nat.le_of_ble_eq_true rfl) (by rw [nl94]; rfl) ?_
  exact c_at nb94_0 hd rfl ⟨hk, fun _ => h35, fun z => ⟨a, rfl, h1, hk, ⟨by omega, by omega⟩, fun _ => h35, fun z2 => ⟨a, rfl, h1, b, h2, h3, ⟨by omega, by omega, by omega⟩, a, rfl, h1, b, h2, h3, ⟨by omega, by omega, by omega⟩, h36 _ (n_rng_or _ _)⟩⟩⟩
end C4
