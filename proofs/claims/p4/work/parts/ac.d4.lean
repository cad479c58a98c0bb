section D4
variable {X : Nat → mm_O} {Z : Nat → List Int32} {d : Nat} {s s' : cS} {a b : Nat} {v k : Int}
theorem c_41t (hd : 6 ≤ d) {L : cL} (hL : L[0]? = some (some (kQ (some 3)))) {S2 : cS} (m3 : c_RP s S2 1 6) (e33 : S2.2.1 3 3 = some b) (tb : cT S2 b = 3) (hl : ∀ a l, cT S2 a = 3 → S2.2.1 a 4 = some l → l < b) : wc Z (fun t L st s' => CP X Z (d + 2) 41 t L st s' (fun r s' => c_b01 r ∧ c_RP s s' 1 6)) (cC X Z (d + 2)) (fun r s' => c_b01 r ∧ c_RP s s' 1 6) [.invokeinterface 6 3, .invokevirtual 38, .freturn] L [kQ (some 3), kQ (some 3)] S2 := by
  have t3 : cT S2 3 = 6 := c_t m3.1 (3, 6) (by decide)
  refine ⟨3, rfl, t3, ?_⟩
  show wc Z _ _ _ _ _ [kQ (S2.2.1 3 3), kQ (some 3)] S2
  rw [e33]
  refine c_iv (d := d + 1) (a := 3) (vs := [kQ (some 3), kQ (some b)]) (r := []) nn38 (by simp) rfl nc38 t3 (by decide) (cg38 hd m3.1 tb hl) (fun r s2 hr => ?_)
  obtain ⟨⟨x, hx, hx2⟩, q4, -⟩ := hr
  rw [hx]
  exact ⟨hx2, ⟨x, rfl, hx2⟩, c_RP_tr m3 q4⟩
/-- behind a new form: it is the atom -/
theorem c_41s {S : cS} (n1 : c_RP s S 1 6) (n2 : cT S b = 3) (n3 : ∀ a l, cT S a = 3 → S.2.1 a 4 = some l → l < b) : c_RP s (c_uA (c_uA (c_uR S 3 3 (some b)) 3 4 (c_w 1)) 3 5 0) 1 6 ∧ cT (c_uA (c_uA (c_uR S 3 3 (some b)) 3 4 (c_w 1)) 3 5 0) b = 3 ∧ (∀ a l, cT (c_uA (c_uA (c_uR S 3 3 (some b)) 3 4 (c_w 1)) 3 5 0) a = 3 → (c_uA (c_uA (c_uR S 3 3 (some b)) 3 4 (c_w 1)) 3 5 0).2.1 a 4 = some l → l < b) := by
  have t3 : cT S 3 = 6 := c_t n1.1 (3, 6) (by decide)
  have q1 := c_ok_R3 n1.1 (j := 3) (Or.inr rfl) (o := some b) (fun c hc => by cases hc; exact n2)
  have q2 := c_RP_u3 q1.1 (j := 4) (c_w_rg 1) (fun e => by cases e)
  have q3 := c_RP_u3 q2.1 (j := 5) (x := 0) ⟨by decide, by decide⟩ (fun e => by cases e)
  refine ⟨c_RP_tr n1 (c_RP_tr q1 (c_RP_tr q2 q3)), n2, fun a l ta hl => ?_⟩
  have ta : cT S a = 3 := ta
  have ha : a ≠ 3 := fun e => by rw [e, t3] at ta; exact absurd ta (by decide)
  have hl : (c_uR S 3 3 (some b)).2.1 a 4 = some l := hl
  rw [c_R_at, if_neg (fun e => ha e.1)] at hl
  exact n3 a l ta hl
theorem c_41u (hd : 6 ≤ d) {n : Int} {S : cS} (n1 : c_RP s S 1 6) (n2 : cT S b = 3) (n3 : ∀ a l, cT S a = 3 → S.2.1 a 4 = some l → l < b) : wc Z (fun t L st s' => CP X Z (d + 2) 41 t L st s' (fun r s' => c_b01 r ∧ c_RP s s' 1 6)) (cC X Z (d + 2)) (fun r s' => c_b01 r ∧ c_RP s s' 1 6) [.multianewarray 6 3, .aload 0, .sipush 1, .multianewarray 6 4, .aload 0, .sipush 0, .multianewarray 6 5, .aload 0, .aload 0, .invokeinterface 6 3, .invokevirtual 38, .freturn] [some (kQ (some 3)), some (kI k), some (kI n)] [kQ (some b), kQ (some 3)] S := by
  have t3 : cT S 3 = 6 := c_t n1.1 (3, 6) (by decide)
  obtain ⟨m1, m2, m3⟩ := c_41s n1 n2 n3
  exact ⟨3, rfl, t3, 3, rfl, t3, 3, rfl, t3, Or.inl rfl, c_41t hd rfl m1 rfl m2 m3⟩
theorem c_41v (hd : 6 ≤ d) (h : c_ok s) (hq : 1 ≤ (cq s).1 ∧ 6 ≤ (cq s).2) (n x y : Int) : CP X Z (d + 2) 41 51 [some (kQ (some 3)), some (kI k), some (kI n)] [kI y, kI x, kQ (some (cn s)), kQ (some (cn s)), kQ (some 3)] (c_new s 3 6) (fun r s' => c_b01 r ∧ c_RP s s' 1 6) := by
  have t1 : cT (c_new s 3 6) (cn s) = 3 := by rw [c_T_new, if_pos rfl]
  obtain ⟨n1, n2, n3, n4⟩ := c_newF (x := x) (y := y) h rfl hq
  refine c_at nb41_51 (by omega) rfl ?_
  refine c_iv (d := d + 1) (a := cn s) (vs := [kQ (some (cn s)), kI x, kI y]) (r := [kQ (some (cn s)), kQ (some 3)]) nn37 (by simp) rfl nc37 t1 (by decide) (cg37 (s := c_new s 3 6) (by omega) t1) (fun r s' hr => ?_)
  rw [hr.1, hr.2]
  exact c_41u hd n1 n2 n3
/-- beginsAtom -/
theorem cg41 (hd : 6 ≤ d) (h : c_ok s) (hk : n_rng k) (hq : 1 ≤ (cq s).1 ∧ 6 ≤ (cq s).2) : CG X Z (d + 2) 41 [kQ (some 3), kI k] s (fun r s' => c_b01 r ∧ c_RP s s' 1 6) := by
  have h51 := fun n x y => c_41v (X := X) (Z := Z) (k := k) hd h hq n x y
  have h39 : ∀ (n x : Int), (n = 0 ∨ n = 1) → CP X Z (d + 2) 41 39 [some (kQ (some 3)), some (kI k), some (kI n)] [kI x, kQ (some (cn s)), kQ (some (cn s)), kQ (some 3)] (c_new s 3 6) (fun r s' => c_b01 r ∧ c_RP s s' 1 6) := by
    intro n x hn
    exact c_at nb41_39 (by omega) rfl ⟨⟨by omega, by omega⟩, fun _ => c_at nb41_50 (by omega) rfl (h51 n x _), fun _ => h51 n x _⟩
  have h25 : ∀ n : Int, (n = 0 ∨ n = 1) → CP X Z (d + 2) 41 25 [some (kQ (some 3)), some (kI k), some (kI n)] [] s (fun r s' => c_b01 r ∧ c_RP s s' 1 6) := by
    intro n hn
    exact c_at nb41_25 (by omega) rfl ⟨hq, ⟨by omega, by omega⟩, fun _ => c_at nb41_38 (by omega) rfl (h39 n 1 hn), fun _ => h39 n 0 hn⟩
  refine c_G_of (L := [some (kQ (some 3)), some (kI k), none]) (by rw [nl41]; exact Nat.le_of_ble_eq_true rfl) (by rw [nl41]; rfl) ?_
  refine c_at nb41_0 (by omega) rfl ?_
  refine c_is (d := d + 1) (vs := [kI k]) (r := []) nn31 (by simp) (cg31 (by omega) hk) (fun r s' hr => ?_)
  obtain ⟨⟨x, hx, hx2⟩, hs⟩ := hr
  rw [hx, hs]
  refine ⟨⟨by omega, by omega⟩, fun _ => h25 x hx2, fun _ => ?_⟩
  refine c_is (d := d + 1) (vs := [kI k]) (r := []) nn33 (by simp) (cg33 (by omega) hk) (fun r s' hr => ?_)
  obtain ⟨⟨y, hy, hy2⟩, hs⟩ := hr
  rw [hy, hs]
  refine ⟨⟨by omega, by omega⟩, fun _ => h25 x hx2, fun _ => ?_⟩
  refine c_is (d := d + 1) (vs := [kI k]) (r := []) nn42 (by simp) (cg42 (by omega) hk) (fun r s' hr => ?_)
  obtain ⟨⟨y2, hy3, hy4⟩, hs⟩ := hr
  rw [hy3, hs]
  exact ⟨⟨by omega, by omega⟩, fun _ => h25 x hx2, fun _ => ⟨Or.inl rfl, ⟨0, rfl, Or.inl rfl⟩, c_RP_le (c_RP_rf h) (by decide) (by decide)⟩⟩
/-- addsDigit: there is an atom -/
theorem cg32 (hd : 6 ≤ d) (h : c_ok s) (ha : s.2.1 3 3 = some a) : CG X Z d 32 [kQ (some 3), kI k] s (fun r s' => c_b01 r ∧ c_RP s s' 0 0) := by
  have h49 : ∀ t, c_RP s t 0 0 → t.2.1 3 3 = some a → CP X Z d 32 49 [some (kQ (some 3)), some (kI k)] [] t (fun r s' => c_b01 r ∧ c_RP s s' 0 0) := by
    intro t ht ea
    have t3 : cT t 3 = 6 := c_t ht.1 (3, 6) (by decide)
    have ta : cT t a = 3 := ht.1.2.2.2.2.2.1 a ea
    have h67 : CP X Z d 32 67 [some (kQ (some 3)), some (kI k)] [] t (fun r s' => c_b01 r ∧ c_RP s s' 0 0) := c_at nb32_67 hd rfl ⟨Or.inl rfl, ⟨0, rfl, Or.inl rfl⟩, ht⟩
    have h96 : ∀ x y : Int, CP X Z d 32 96 [some (kQ (some 3)), some (kI k)] [kI x, kI y, kQ (t.2.1 3 3)] t (fun r s' => c_b01 r ∧ c_RP s s' 0 0) := by
      intro x y
      have q1 := c_RP_uf ht.1 ta (j := 1) (x := y + x)
      exact c_at nb32_96 hd rfl ⟨a, ea, ta, 3, rfl, t3, 3, rfl, t3, Or.inr rfl, ⟨1, rfl, Or.inr rfl⟩, c_RP_tr ht (c_RP_tr q1 (c_RP_u3 q1.1 (c_w_rg _) (fun e => by cases e)))⟩
    have h69 : CP X Z d 32 69 [some (kQ (some 3)), some (kI k)] [] t (fun r s' => c_b01 r ∧ c_RP s s' 0 0) := c_at nb32_69 hd rfl ⟨3, rfl, t3, 3, rfl, t3, a, ea, ta, 3, rfl, t3, ht.1.1 _ _, fun _ => c_at nb32_95 hd rfl (h96 _ _), fun _ => h96 _ _⟩
    exact c_at nb32_49 hd rfl ⟨3, rfl, t3, a, ea, ta, ht.1.1 _ _, fun _ => h67, fun _ => ⟨3, rfl, t3, ht.1.1 _ _, ⟨by decide, by decide⟩, fun _ => h69, fun _ => h67⟩⟩
  have t3 : cT s 3 = 6 := c_t h (3, 6) (by decide)
  have ta : cT s a = 3 := h.2.2.2.2.2.1 a ha
  have h0 := h49 s (c_RP_rf h) ha
  have q1 := c_RP_uf h ta (j := 0) (x := 0)
  have q2 := c_RP_uf q1.1 (show cT (c_uA s a 0 (c_w 0)) a = 3 from ta) (j := 1) (x := 0)
  have q3 := c_RP_u3 q2.1 (j := 4) (c_w_rg 0) (fun e => by cases e)
  have q4 := c_RP_u3 q3.1 (j := 5) (x := 1) ⟨by decide, by decide⟩ (fun e => by cases e)
  refine c_G_of (L := [some (kQ (some 3)), some (kI k)]) (by rw [nl32]; exact Nat.le_of_ble_eq_true rfl) (by rw [nl32]; rfl) ?_
  exact c_at nb32_0 hd rfl ⟨3, rfl, t3, a, ha, ta, h.1 _ _, ⟨by decide, by decide⟩, fun _ => h0, fun _ => ⟨3, rfl, t3, a, ha, ta, h.1 _ _, ⟨by decide, by decide⟩, fun _ => h0, fun _ => ⟨3, rfl, t3, a, ha, ta, 3, rfl, t3, a, ha, ta, 3, rfl, t3, 3, rfl, t3, Or.inr rfl, h49 _ (c_RP_tr q1 (c_RP_tr q2 (c_RP_tr q3 q4))) ha⟩⟩⟩
/-- lengthensAtom -/
theorem cg30 (hd : 6 ≤ d) (h : c_ok s) (hk : n_rng k) : CG X Z (d + 2) 30 [kQ (some 3), kI k] s (fun r s' => c_b01 r ∧ c_RP s s' 0 0) := by
  have t3 : cT s 3 = 6 := c_t h (3, 6) (by decide)
  refine c_G_of (L := [some (kQ (some 3)), some (kI k)]) (by rw [nl30]; exact Nat.le_of_ble_eq_true rfl) (by rw [nl30]; rfl) ?_
  refine c_at nb30_0 (by omega) rfl ⟨3, rfl, t3, fun z => ?_, fun _ => ⟨Or.inl rfl, ⟨0, rfl, Or.inl rfl⟩, c_RP_rf h⟩⟩
  cases ea : s.2.1 3 3 with
  | none => exact absurd ea z
  | some a =>
    have ta : cT s a = 3 := h.2.2.2.2.2.1 a ea
    have h50 : CP X Z (d + 2) 30 50 [some (kQ (some 3)), some (kI k)] [] s (fun r s' => c_b01 r ∧ c_RP s s' 0 0) := c_at nb30_50 (by omega) rfl ⟨Or.inl rfl, ⟨0, rfl, Or.inl rfl⟩, c_RP_rf h⟩
    have q1 := c_RP_uf h ta (j := 1) (x := n_or (n_shl (s.1 a 1) 8) k)
    have h52 : CP X Z (d + 2) 30 52 [some (kQ (some 3)), some (kI k)] [] s (fun r s' => c_b01 r ∧ c_RP s s' 0 0) := c_at nb30_52 (by omega) rfl ⟨3, rfl, t3, 3, rfl, t3, a, ea, ta, a, ea, ta, 3, rfl, t3, 3, rfl, t3, Or.inr rfl, ⟨1, rfl, Or.inr rfl⟩, c_RP_tr q1 (c_RP_u3 q1.1 (c_w_rg _) (fun e => by cases e))⟩
    refine c_at nb30_9 (by omega) rfl ?_
    refine c_is (d := d + 1) (vs := [kI k]) (r := []) nn31 (by simp) (cg31 (by omega) hk) (fun r s' hr => ?_)
    obtain ⟨⟨x, hx, hx2⟩, hs⟩ := hr
    rw [hx, hs]
    refine ⟨⟨by omega, by omega⟩, fun _ => ?_, fun _ => ?_⟩
    · refine c_at nb30_25 (by omega) rfl ?_
      refine c_is (d := d + 1) (vs := [kI k]) (r := []) nn33 (by simp) (cg33 (by omega) hk) (fun r s' hr => ?_)
      obtain ⟨⟨y, hy, hy2⟩, hs⟩ := hr
      rw [hy, hs]
      refine ⟨⟨by omega, by omega⟩, fun _ => h50, fun _ => ⟨3, rfl, t3, ?_⟩⟩
      show wc Z _ _ _ _ _ [kQ (s.2.1 3 3)] s
      rw [ea]
      refine c_iv (d := d + 1) (a := a) (vs := [kQ (some a)]) (r := []) nn34 (by simp) rfl nc34 ta (by decide) (cg34 hd ta h.1) (fun r s' hr => ?_)
      obtain ⟨⟨y2, hy3, hy4⟩, hs⟩ := hr
      rw [hy3, hs]
      exact ⟨⟨by omega, by omega⟩, fun _ => h50, fun _ => ⟨3, rfl, t3, h.1 _ _, ⟨by decide, by decide⟩, fun _ => h52, fun _ => h50⟩⟩
    · refine c_iv (d := d + 1) (a := 3) (vs := [kQ (some 3), kI (k - 48)]) (r := []) nn32 (by simp) rfl nc32 t3 (by decide) (cg32 (by omega) h ea) (fun r s2 hr => ?_)
      obtain ⟨⟨y, hy, hy2⟩, q⟩ := hr
      rw [hy]
      exact ⟨hy2, ⟨y, rfl, hy2⟩, q⟩
/-- takes -/
theorem cg29 (hd : 6 ≤ d) (h : c_ok s) (hk : n_rng k) (hq : 1 ≤ (cq s).1 ∧ 6 ≤ (cq s).2) : CG X Z (d + 3) 29 [kQ (some 3), kI k] s (fun r s' => c_b01 r ∧ c_RP s s' 1 6) := by
  have t3 : cT s 3 = 6 := c_t h (3, 6) (by decide)
  have r : ∀ k : Int, 0 ≤ k ∧ k < 100 → n_rng k := fun k hk => ⟨by omega, by omega⟩
  refine c_G_of (L := [some (kQ (some 3)), some (kI k), none]) (by rw [nl29]; exact Nat.le_of_ble_eq_true rfl) (by rw [nl29]; rfl) ?_
  refine c_at nb29_0 (by omega) rfl ?_
  refine c_iv (d := d + 2) (a := 3) (vs := [kQ (some 3), kI k]) (r := []) nn30 (by simp) rfl nc30 t3 (by decide) (cg30 hd h hk) (fun r' s1 hr => ?_)
  obtain ⟨⟨x, hx, hx2⟩, q1⟩ := hr
  rw [hx]
  refine ⟨⟨by omega, by omega⟩, fun _ => ?_, fun _ => ⟨Or.inr rfl, ⟨1, rfl, Or.inr rfl⟩, c_RP_le q1 (by decide) (by decide)⟩⟩
  have t31 : cT s1 3 = 6 := c_t q1.1 (3, 6) (by decide)
  have q2 := c_ok_R3 q1.1 (j := 3) (Or.inr rfl) (o := none) (fun c hc => by cases hc)
  have q12 := c_RP_tr q1 q2
  have hq2 : 1 ≤ (cq (c_uR s1 3 3 none)).1 ∧ 6 ≤ (cq (c_uR s1 3 3 none)).2 := by
    have := q12.2.2.2
    unfold c_bd at this
    omega
  have t32 : cT (c_uR s1 3 3 none) 3 = 6 := t31
  have h22 : ∀ y : Int, (y = 0 ∨ y = 1) → CP X Z (d + 3) 29 22 [some (kQ (some 3)), some (kI k), none] [kI y] s1 (fun r s' => c_b01 r ∧ c_RP s s' 1 6) := by
    intro y hy
    have hend : ∀ t (z : Int), c_RP s t 1 6 → (z = 0 ∨ z = 1) → CP X Z (d + 3) 29 93 [some (kQ (some 3)), some (kI k), some (kI y)] [kI z] t (fun r s' => c_b01 r ∧ c_RP s s' 1 6) := fun t z ht hz => c_at nb29_93 (by omega) rfl ⟨hz, ⟨z, rfl, hz⟩, ht⟩
    have h76 : CP X Z (d + 3) 29 76 [some (kQ (some 3)), some (kI k), some (kI y)] [] (c_uR s1 3 3 none) (fun r s' => c_b01 r ∧ c_RP s s' 1 6) := by
      refine c_at nb29_76 (by omega) rfl ⟨⟨by omega, by omega⟩, fun _ => c_at nb29_92 (by omega) rfl (hend _ 0 (c_RP_le q12 (by decide) (by decide)) (Or.inl rfl)), fun _ => ?_⟩
      refine c_iv (d := d + 2) (a := 3) (vs := [kQ (some 3), kI k]) (r := []) nn41 (by simp) rfl nc41 t32 (by decide) (cg41 hd q2.1 hk hq2) (fun r' s2 hr => ?_)
      obtain ⟨⟨z, hz, hz2⟩, q3⟩ := hr
      rw [hz]
      have m := c_RP_le (c_RP_tr q12 q3) (x2 := 1) (y2 := 6) (by decide) (by decide)
      exact ⟨⟨by omega, by omega⟩, fun _ => c_at nb29_92 (by omega) rfl (hend s2 0 m (Or.inl rfl)), fun _ => hend s2 1 m (Or.inr rfl)⟩
    refine c_at nb29_22 (by omega) rfl ⟨3, rfl, t31, hk, r _ (by decide), fun _ => c_at nb29_64 (by omega) rfl ⟨Or.inr rfl, ⟨1, rfl, Or.inr rfl⟩, c_RP_le q12 (by decide) (by decide)⟩, fun _ => ⟨r _ (by decide), fun _ => ?_, fun _ => ⟨r _ (by decide), fun _ => ?_, fun _ => h76⟩⟩⟩
    · refine c_at nb29_66 (by omega) rfl ?_
      refine c_iv (d := d + 2) (a := 3) (vs := [kQ (some 3)]) (r := []) nn36 (by simp) rfl nc36 t32 (by decide) (cg36 hd q2.1 hq2) (fun r' s2 hr => ?_)
      obtain ⟨⟨z, hz, hz2⟩, q3⟩ := hr
      rw [hz]
      exact ⟨hz2, ⟨z, rfl, hz2⟩, c_RP_le (c_RP_tr q12 q3) (by decide) (by decide)⟩
    · refine c_at nb29_71 (by omega) rfl ?_
      refine c_iv (d := d + 2) (a := 3) (vs := [kQ (some 3)]) (r := []) nn40 (by simp) rfl nc40 t32 (by decide) (cg40 (by omega) q2.1) (fun r' s2 hr => ?_)
      obtain ⟨⟨z, hz, hz2⟩, q3⟩ := hr
      rw [hz]
      exact ⟨hz2, ⟨z, rfl, hz2⟩, c_RP_le (c_RP_tr q12 q3) (by decide) (by decide)⟩
  exact c_at nb29_10 (by omega) rfl ⟨3, rfl, t31, fun _ => c_at nb29_21 (by omega) rfl (h22 0 (Or.inl rfl)), fun _ => h22 1 (Or.inr rfl)⟩
/-- read: the loop -/
theorem c_l28 (hd : 6 ≤ d) : ∀ (m : Nat) (t : cS) (i : Int) (x y : Nat), c_RP s t x y → 0 ≤ i → i + m = t.1 1 1 → m ≤ (cq t).1 ∧ 6 * m ≤ (cq t).2 → x + m ≤ 120 → y + 6 * m ≤ 720 → CP X Z (d + 4) 28 17 [some (kQ (some 3)), some (kQ (some 1)), some (kI i)] [] t (fun r s' => (∃ o, r = .inl (some (kQ o)) ∧ c_fo s' o) ∧ c_RP s s' 120 720) := by
  intro m
  induction m with
  | zero =>
    intro t i x y ht hi hm hq hx hy
    have t1 : cT t 1 = 1 := c_t ht.1 (1, 1) (by decide)
    have t3 : cT t 3 = 6 := c_t ht.1 (3, 6) (by decide)
    have hb : c_By t 1 2 := c_ok_By ht.1 (p := (1, 0, 2)) (by decide) rfl (by decide)
    have := hb.2.2.2
    have q1 := c_RP_u3 ht.1 (j := 6) (c_w_rg (t.1 1 1)) (fun e => by cases e)
    have m1 := c_RP_le (c_RP_tr ht q1) (x2 := 120) (y2 := 720) (by omega) (by omega)
    have h73 : ∀ o : Option Nat, c_fo (c_uA t 3 6 (c_w (t.1 1 1))) o → CP X Z (d + 4) 28 73 [some (kQ (some 3)), some (kQ (some 1)), some (kI i)] [kQ o] (c_uA t 3 6 (c_w (t.1 1 1))) (fun r s' => (∃ o, r = .inl (some (kQ o)) ∧ c_fo s' o) ∧ c_RP s s' 120 720) := fun o ho => c_at nb28_73 (by omega) rfl ⟨⟨o, rfl, ho⟩, m1⟩
    have h50 : CP X Z (d + 4) 28 50 [some (kQ (some 3)), some (kQ (some 1)), some (kI i)] [] t (fun r s' => (∃ o, r = .inl (some (kQ o)) ∧ c_fo s' o) ∧ c_RP s s' 120 720) := c_at nb28_50 (by omega) rfl ⟨1, rfl, t1, 3, rfl, t3, 3, rfl, t3, q1.1.1 _ _, fun _ => c_at nb28_72 (by omega) rfl (h73 none (fun c hc => by cases hc)), fun _ => ⟨3, rfl, t3, h73 _ q1.1.2.2.2.2.1⟩⟩
    exact c_at nb28_17 (by omega) rfl ⟨1, rfl, t1, ⟨by omega, by omega⟩, ht.1.1 _ _, fun _ => h50, fun z => by omega⟩
  | succ m ih =>
    intro t i x y ht hi hm hq hx hy
    have t1 : cT t 1 = 1 := c_t ht.1 (1, 1) (by decide)
    have t3 : cT t 3 = 6 := c_t ht.1 (3, 6) (by decide)
    have hb : c_By t 1 2 := c_ok_By ht.1 (p := (1, 0, 2)) (by decide) rfl (by decide)
    have hbb := hb.2.2.2
    refine c_at nb28_17 (by omega) rfl ⟨1, rfl, t1, ⟨by omega, by omega⟩, ht.1.1 _ _, fun z => by omega, fun _ => ?_⟩
    refine c_iv (d := d + 3) (a := 1) (vs := [kQ (some 1), kI i]) (r := [kQ (some 3)]) nn16 (by simp) rfl nc16 t1 (by decide) (cg16w (by omega) hb ht.1.1) (fun r' s' hr => ?_)
    obtain ⟨⟨c, hc, hcr⟩, hs⟩ := hr
    rw [hc, hs]
    refine c_iv (d := d + 3) (a := 3) (vs := [kQ (some 3), kI c]) (r := []) nn29 (by simp) rfl nc29 t3 (by decide) (cg29 hd ht.1 hcr ⟨by omega, by omega⟩) (fun r' s1 hr => ?_)
    obtain ⟨⟨z, hz, hz2⟩, q1⟩ := hr
    rw [hz]
    have m1 := c_RP_tr ht q1
    have t31 : cT s1 3 = 6 := c_t q1.1 (3, 6) (by decide)
    refine ⟨⟨by omega, by omega⟩, fun _ => ?_, fun _ => ⟨3, rfl, t31, ⟨none, rfl, fun c hc => by cases hc⟩, c_RP_le (c_RP_tr m1 (c_RP_u3 q1.1 (c_w_rg _) (fun e => by cases e))) (by omega) (by omega)⟩⟩
    refine c_at nb28_44 (by omega) rfl ?_
    have hbd := q1.2.2.2
    unfold c_bd at hbd
    refine ih s1 (i + 1) (x + 1) (y + 6) m1 (by omega) ?_ ⟨by omega, by omega⟩ (by omega) (by omega)
    rw [q1.2.2.1.1]
    omega
/-- read -/
theorem cg28 (hd : 6 ≤ d) (h : c_ok s) (hq : 120 ≤ (cq s).1 ∧ 720 ≤ (cq s).2) : CG X Z (d + 4) 28 [kQ (some 3), kQ (some 1)] s (fun r s' => (∃ o, r = .inl (some (kQ o)) ∧ c_fo s' o) ∧ c_RP s s' 120 720) := by
  have t3 : cT s 3 = 6 := c_t h (3, 6) (by decide)
  have hb : c_By s 1 2 := c_ok_By h (p := (1, 0, 2)) (by decide) rfl (by decide)
  have hbb := hb.2.2.2
  have hn : cN s 2 = 120 := c_l h (2, 120) (by decide)
  have q1 := c_RP_u3 h (j := 1) (x := c_w 0) (c_w_rg 0) (fun _ => by decide)
  have q2 := c_ok_R3 q1.1 (j := 2) (Or.inl rfl) (o := none) (fun c hc => by cases hc)
  have q3 := c_ok_R3 q2.1 (j := 3) (Or.inr rfl) (o := none) (fun c hc => by cases hc)
  have m := c_RP_tr q1 (c_RP_tr q2 q3)
  refine c_G_of (L := [some (kQ (some 3)), some (kQ (some 1)), none]) (by rw [nl28]; exact Nat.le_of_ble_eq_true rfl) (by rw [nl28]; rfl) ?_
  refine c_at nb28_0 (by omega) rfl ⟨3, rfl, t3, 3, rfl, t3, 3, rfl, t3, ?_⟩
  exact c_l28 hd (s.1 1 1).toNat (c_uR (c_uR (c_uA s 3 1 (c_w 0)) 3 2 none) 3 3 none) 0 0 0 m (by omega) (by show 0 + (((s.1 1 1).toNat : Nat) : Int) = s.1 1 1; omega) ⟨by show (s.1 1 1).toNat ≤ (cq s).1; omega, by show 6 * (s.1 1 1).toNat ≤ (cq s).2; omega⟩ (by omega) (by omega)
end D4
