/-! THE CLASS'S MACHINE -/
def c_mf (s : cS) : Prop := (cT s 19 = 5 ∧ s.2.1 19 0 = some 20 ∧ c_By s 20 21) ∧ (s.2.1 19 1 = some 22 ∧ cT s 22 = 20 ∧ cN s 22 = 120) ∧ (s.2.1 19 3 = some 23 ∧ cT s 23 = 20 ∧ cN s 23 = 24) ∧ (s.2.1 19 4 = some 24 ∧ cT s 24 = 20 ∧ cN s 24 = 24)
def c_MM (s s' : cS) : Prop := s'.2 = s.2 ∧ (∀ x i, ¬ (x = 19 ∨ x = 22 ∨ x = 23 ∨ x = 24) → s'.1 x i = s.1 x i) ∧ c_rg s'
section C5
variable {X : Nat → mm_O} {Z : Nat → List Int32} {d : Nat} {s s' : cS} {v k : Int}
theorem c_MM_mf (h : c_mf s) (hm : c_MM s s') : c_mf s' := by
  obtain ⟨⟨h1, h2, h3, h4, h5, h6, h7⟩, h8, h9, h10⟩ := h
  obtain ⟨m1, m2, m3⟩ := hm
  have e := m2 20 1 (by decide)
  unfold c_mf c_By
  rw [c_T2 m1, c_T2 m1, c_T2 m1, c_T2 m1, c_T2 m1, c_T2 m1, c_N2 m1, c_N2 m1, c_N2 m1, c_N2 m1, e, m1]
  exact ⟨⟨h1, h2, h3, h4, h5, h6, h7⟩, h8, h9, h10⟩
theorem c_MM_tr {s2 : cS} (h : c_MM s s') (g : c_MM s' s2) : c_MM s s2 := ⟨g.1.trans h.1, fun x i hx => (g.2.1 x i hx).trans (h.2.1 x i hx), g.2.2⟩
theorem c_MM_rf (hg : c_rg s) : c_MM s s := ⟨rfl, fun _ _ _ => rfl, hg⟩
theorem c_MM_u {a i : Nat} {x : Int} (h : c_MM s s') (ha : a = 19 ∨ a = 22 ∨ a = 23 ∨ a = 24) : c_MM s (c_uA s' a i (c_w x)) := by
  refine ⟨h.1, fun y j hy => ?_, c_rg_uA h.2.2 (c_w_rg _)⟩
  show n_updA s'.1 a i _ y j = _
  rw [n_ua_ne (by omega)]
  exact h.2.1 y j hy
theorem cg25 (hd : 6 ≤ d) (h : c_mf s) (hg : c_rg s) : CG X Z d 25 [kQ (some 19), kI k] s (fun r s' => (∃ x, r = .inl (some (kI x)) ∧ n_rng x) ∧ s' = s) := by
  refine CG_w (vs' := [kQ (some 19), kI (c_w k)]) (by simp only [List.map_cons, List.map_nil, kg_w k, kg_w (c_w k), c_w_id (c_w_rg k)]) ?_
  have hk := c_w_rg k
  generalize c_w k = k at hk
  obtain ⟨⟨h1, -⟩, ⟨h2, h3, h4⟩, -⟩ := h
  have h28 : ∀ x : Int, n_rng x → CP X Z d 25 28 [some (kQ (some 19)), some (kI k)] [kI x] s (fun r s' => (∃ x, r = .inl (some (kI x)) ∧ n_rng x) ∧ s' = s) := fun x hx => c_at nb25_28 hd rfl ⟨⟨x, rfl, hx⟩, rfl⟩
  have h27 : CP X Z d 25 27 [some (kQ (some 19)), some (kI k)] [] s (fun r s' => (∃ x, r = .inl (some (kI x)) ∧ n_rng x) ∧ s' = s) := c_at nb25_27 hd rfl (h28 _ ⟨by decide, by decide⟩)
  refine c_G_of (L := [some (kQ (some 19)), some (kI k)]) (by rw [nl25]; exact Nat.le_of_ble_eq_true rfl) (by rw [nl25]; rfl) ?_
  exact c_at nb25_0 hd rfl ⟨hk, fun _ => h27, fun z => ⟨19, rfl, h1, hk, hg _ _, fun _ => h27, fun z2 => ⟨hk, ⟨by decide, by decide⟩, fun _ => h27, fun z3 => ⟨19, rfl, h1, 22, h2, h3, ⟨by omega, by rw [h4]; omega, by omega⟩, h28 _ (hg _ _)⟩⟩⟩⟩
theorem cg101 (hd : 6 ≤ d) (h : c_mf s) (hg : c_rg s) : CG X Z d 101 [kQ (some 19), kI v] s (fun r s' => r = .inl none ∧ c_MM s s' ∧ s'.1 19 5 = s.1 19 5) := by
  obtain ⟨⟨h1, -⟩, ⟨h2, h3, h4⟩, -⟩ := h
  have h36 : ∀ t, c_MM s t → t.1 19 5 = s.1 19 5 → CP X Z d 101 36 [some (kQ (some 19)), some (kI v)] [] t (fun r s' => r = .inl none ∧ c_MM s s' ∧ s'.1 19 5 = s.1 19 5) := fun t ht h5 => c_at nb101_36 hd rfl ⟨rfl, rfl, ht, h5⟩
  have h0 := h36 s (c_MM_rf hg) rfl
  refine c_G_of (L := [some (kQ (some 19)), some (kI v)]) (by rw [nl101]; exact Nat.le_of_ble_eq_true rfl) (by rw [nl101]; rfl) ?_
  exact c_at nb101_0 hd rfl ⟨19, rfl, h1, hg _ _, fun _ => h0, fun z => ⟨19, rfl, h1, hg _ _, ⟨by decide, by decide⟩, fun _ => h0, fun z2 => ⟨19, rfl, h1, 19, rfl, h1, 22, h2, h3, ⟨by omega, by rw [h4]; omega, by omega⟩, 19, rfl, h1, 19, rfl, h1, h36 _ (c_MM_u (c_MM_u (c_MM_rf hg) (by decide)) (by decide)) rfl⟩⟩⟩
theorem cg103 (hd : 6 ≤ d) (h : c_mf s) (hg : c_rg s) : CG X Z (d + 1) 103 [kQ (some 19)] s (fun r s' => (∃ x, r = .inl (some (kI x)) ∧ n_rng x) ∧ c_MM s s' ∧ s'.1 19 5 = s.1 19 5) := by
  have h1 := h.1.1
  refine c_G_of (L := [some (kQ (some 19)), none]) (by rw [nl103]; exact Nat.le_of_ble_eq_true rfl) (by rw [nl103]; rfl) ?_
  refine c_at nb103_0 (by omega) rfl ⟨19, rfl, h1, ?_⟩
  refine c_iv (a := 19) (vs := [kQ (some 19), kI (s.1 19 2 - 1)]) (r := []) nn25 (by simp) rfl nc25 h1 (by decide) (cg25 hd h hg) (fun r s' hr => ?_)
  obtain ⟨⟨x, hx, hxr⟩, hs⟩ := hr
  rw [hx, hs]
  exact ⟨19, rfl, h1, by simp, 19, rfl, h1, ⟨x, rfl, hxr⟩, c_MM_u (c_MM_rf hg) (by decide), rfl⟩
theorem cg104 (hd : 6 ≤ d) (h : c_mf s) (hg : c_rg s) : CG X Z (d + 2) 104 [kQ (some 19)] s (fun r s' => r = .inl none ∧ c_MM s s') := by
  refine c_G_of (L := [some (kQ (some 19)), none]) (by rw [nl104]; exact Nat.le_of_ble_eq_true rfl) (by rw [nl104]; rfl) ?_
  refine c_at nb104_0 (by omega) rfl ?_
  refine c_iv (d := d + 1) (a := 19) (vs := [kQ (some 19)]) (r := []) nn103 (by simp) rfl nc103 h.1.1 (by decide) (cg103 hd h hg) (fun r s1 hr => ?_)
  obtain ⟨⟨x, hx, hxr⟩, m1, -⟩ := hr
  rw [hx]
  have f1 := c_MM_mf h m1
  refine c_iv (d := d + 1) (a := 19) (vs := [kQ (some 19)]) (r := []) nn103 (by simp) rfl nc103 f1.1.1 (by decide) (cg103 hd f1 m1.2.2) (fun r s2 hr => ?_)
  obtain ⟨⟨y, hy, hyr⟩, m2, -⟩ := hr
  rw [hy]
  have f2 := c_MM_mf f1 m2
  refine c_iv (d := d + 1) (a := 19) (vs := [kQ (some 19), kI x]) (r := []) nn101 (by simp) rfl nc101 f2.1.1 (by decide) (cg101 (by omega) f2 m2.2.2) (fun r s3 hr => ?_)
  rw [hr.1]
  exact ⟨rfl, rfl, c_MM_tr m1 (c_MM_tr m2 hr.2.1)⟩
theorem cg102 (hd : 6 ≤ d) (hv : n_rng v) (h : c_mf s) (hg : c_rg s) : CG X Z (d + 2) 102 [kQ (some 19), kI v] s (fun r s' => r = .inl none ∧ c_MM s s') := by
  refine c_G_of (L := [some (kQ (some 19)), some (kI v), none, none]) (by rw [nl102]; exact Nat.le_of_ble_eq_true rfl) (by rw [nl102]; rfl) ?_
  refine c_at nb102_0 (by omega) rfl ?_
  refine c_iv (d := d + 1) (a := 19) (vs := [kQ (some 19)]) (r := []) nn103 (by simp) rfl nc103 h.1.1 (by decide) (cg103 hd h hg) (fun r s1 hr => ?_)
  obtain ⟨⟨x, hx, hxr⟩, m1, -⟩ := hr
  rw [hx]
  have f1 := c_MM_mf h m1
  refine c_iv (d := d + 1) (a := 19) (vs := [kQ (some 19)]) (r := []) nn103 (by simp) rfl nc103 f1.1.1 (by decide) (cg103 hd f1 m1.2.2) (fun r s2 hr => ?_)
  obtain ⟨⟨y, hy, hyr⟩, m2, -⟩ := hr
  rw [hy]
  have f2 := c_MM_mf f1 m2
  have h101 : ∀ t, c_MM s t → CP X Z (d + 2) 102 101 [some (kQ (some 19)), some (kI v), some (kI x), some (kI y)] [] t (fun r s' => r = .inl none ∧ c_MM s s') := fun t ht => c_at nb102_101 (by omega) rfl ⟨rfl, rfl, ht⟩
  have hput : ∀ w : Int, CG X Z (d + 1) 101 [kQ (some 19), kI w] s2 (fun r s' => r = .inl none ∧ c_MM s s') := fun w => CG_mono (cg101 (by omega) f2 m2.2.2) (fun r s3 hr => ⟨hr.1, c_MM_tr m1 (c_MM_tr m2 hr.2.1)⟩)
  have h81 : ∀ w : Int, CP X Z (d + 2) 102 81 [some (kQ (some 19)), some (kI v), some (kI x), some (kI y)] [kI w, kQ (some 19)] s2 (fun r s' => r = .inl none ∧ c_MM s s') := fun w => c_at nb102_81 (by omega) rfl (c_iv (d := d + 1) (a := 19) (vs := [kQ (some 19), kI w]) (r := []) nn101 (by simp) rfl nc101 f2.1.1 (by decide) (hput w) (fun r s3 hr => by rw [hr.1]; exact h101 s3 hr.2))
  have h98 : ∀ w : Int, CP X Z (d + 2) 102 98 [some (kQ (some 19)), some (kI v), some (kI x), some (kI y)] [kI w, kQ (some 19)] s2 (fun r s' => r = .inl none ∧ c_MM s s') := fun w => c_at nb102_98 (by omega) rfl (c_iv (d := d + 1) (a := 19) (vs := [kQ (some 19), kI w]) (r := []) nn101 (by simp) rfl nc101 f2.1.1 (by decide) (hput w) (fun r s3 hr => by rw [hr.1]; exact h101 s3 hr.2))
  refine ⟨hv, ⟨by decide, by decide⟩, fun _ => ?_, fun _ => ⟨⟨by decide, by decide⟩, fun _ => ?_, fun _ => ⟨⟨by decide, by decide⟩, fun _ => ?_, fun _ => ⟨⟨by decide, by decide⟩, fun _ => ?_, fun _ => ?_⟩⟩⟩⟩
  · exact c_at nb102_40 (by omega) rfl (c_iv (d := d + 1) (a := 19) (vs := [kQ (some 19), kI (y + x)]) (r := []) nn101 (by simp) rfl nc101 f2.1.1 (by decide) (hput _) (fun r s3 hr => by rw [hr.1]; exact h101 s3 hr.2))
  · exact c_at nb102_50 (by omega) rfl (c_iv (d := d + 1) (a := 19) (vs := [kQ (some 19), kI (y - x)]) (r := []) nn101 (by simp) rfl nc101 f2.1.1 (by decide) (hput _) (fun r s3 hr => by rw [hr.1]; exact h101 s3 hr.2))
  · exact c_at nb102_60 (by omega) rfl (c_iv (d := d + 1) (a := 19) (vs := [kQ (some 19), kI (y * x)]) (r := []) nn101 (by simp) rfl nc101 f2.1.1 (by decide) (hput _) (fun r s3 hr => by rw [hr.1]; exact h101 s3 hr.2))
  · exact c_at nb102_70 (by omega) rfl ⟨hyr, hxr, fun _ => c_at nb102_80 (by omega) rfl (h81 0), fun _ => h81 1⟩
  · exact c_at nb102_87 (by omega) rfl ⟨hyr, hxr, fun _ => c_at nb102_97 (by omega) rfl (h98 0), fun _ => h98 1⟩
theorem cg105 (hd : 6 ≤ d) (h : c_mf s) (hg : c_rg s) : CG X Z (d + 1) 105 [kQ (some 19), kI k] s (fun r s' => r = .inl none ∧ c_MM s s') := by
  refine CG_w (vs' := [kQ (some 19), kI (c_w k)]) (by simp only [List.map_cons, List.map_nil, kg_w k, kg_w (c_w k), c_w_id (c_w_rg k)]) ?_
  have hk := c_w_rg k
  generalize c_w k = k at hk
  obtain ⟨⟨h1, h1b⟩, ⟨h2, h3, h4⟩, h5⟩ := h
  have h34 : ∀ t, c_MM s t → CP X Z (d + 1) 105 34 [some (kQ (some 19)), some (kI k)] [] t (fun r s' => r = .inl none ∧ c_MM s s') := fun t ht => c_at nb105_34 (by omega) rfl ⟨rfl, rfl, ht⟩
  have h0 := h34 s (c_MM_rf hg)
  refine c_G_of (L := [some (kQ (some 19)), some (kI k)]) (by rw [nl105]; exact Nat.le_of_ble_eq_true rfl) (by rw [nl105]; rfl) ?_
  refine c_at nb105_0 (by omega) rfl ⟨hk, fun _ => h0, fun z => ⟨19, rfl, h1, hk, hg _ _, fun _ => h0, fun z2 => ⟨hk, ⟨by decide, by decide⟩, fun _ => h0, fun z3 => ⟨19, rfl, h1, 19, rfl, h1, ?_⟩⟩⟩⟩
  refine c_iv (a := 19) (vs := [kQ (some 19), kI (s.1 19 2 - 1)]) (r := [kI k, kQ (s.2.1 19 1)]) nn25 (by simp) rfl nc25 h1 (by decide) (cg25 hd ⟨⟨h1, h1b⟩, ⟨h2, h3, h4⟩, h5⟩ hg) (fun r s' hr => ?_)
  obtain ⟨⟨x, hx, hxr⟩, hs⟩ := hr
  rw [hx, hs]
  exact ⟨22, h2, h3, ⟨by omega, by rw [h4]; omega, by omega⟩, h34 _ (c_MM_u (c_MM_rf hg) (by decide))⟩
end C5
section C5b
variable {X : Nat → mm_O} {Z : Nat → List Int32} {d : Nat} {s s' : cS} {v k : Int}
theorem cg16w {a b : Nat} (hd : 6 ≤ d) (h : c_By s a b) (hg : c_rg s) : CG X Z d 16 [kQ (some a), kI k] s (fun r s' => (∃ x, r = .inl (some (kI x)) ∧ n_rng x) ∧ s' = s) := by
  refine CG_w (vs' := [kQ (some a), kI (c_w k)]) (by simp only [List.map_cons, List.map_nil, kg_w k, kg_w (c_w k), c_w_id (c_w_rg k)]) ?_
  refine CG_mono (cg16 hd h hg (c_w_rg k)) (fun r s' hr => ⟨⟨_, hr.1, ?_⟩, hr.2⟩)
  split
  · exact hg _ _
  · exact ⟨by decide, by decide⟩
theorem cg94w {a b : Nat} (hd : 6 ≤ d) (h : c_By s a b) (hg : c_rg s) : CG X Z d 94 [kQ (some a), kI k] s (fun r s' => (∃ x, r = .inl (some (kI x)) ∧ n_rng x) ∧ s' = s) := by
  refine CG_w (vs' := [kQ (some a), kI (c_w k)]) (by simp only [List.map_cons, List.map_nil, kg_w k, kg_w (c_w k), c_w_id (c_w_rg k)]) ?_
  exact cg94 hd h hg (c_w_rg k)
theorem cg71w {a b : Nat} (hd : 6 ≤ d) (h : c_By s a b) (hg : c_rg s) : CG X Z d 71 [kQ (some a), kI k, kI v] s (fun r s' => r = .inl none ∧ c_BM s a b s' ∧ s'.1 a 1 = s.1 a 1) := by
  refine CG_w (vs' := [kQ (some a), kI (c_w k), kI v]) (by simp only [List.map_cons, List.map_nil, kg_w k, kg_w (c_w k), c_w_id (c_w_rg k)]) ?_
  exact cg71 hd h hg (c_w_rg k)
theorem c_106a (hd : 6 ≤ d) (h : c_mf s) (h97 : ∀ t, c_MM s t → CP X Z (d + 1) 106 97 [some (kQ (some 19))] [] t (fun r s' => r = .inl none ∧ c_MM s s')) {S : cS} (mS : c_MM s S) : wc Z (fun t L st s' => CP X Z (d + 1) 106 t L st s' (fun r s' => r = .inl none ∧ c_MM s s')) (cC X Z (d + 1)) (fun r s' => r = .inl none ∧ c_MM s s') [.aload 0, .aload 0, .invokeinterface 5 0, .aload 0, .invokeinterface 5 7, .sipush 1, .iadd, .invokevirtual 94, .multianewarray 5 7, .goto_w 97] [some (kQ (some 19))] [] S := by
  have fS := c_MM_mf h mS
  have e20 : S.2.1 19 0 = some 20 := fS.1.2.1
  refine ⟨19, rfl, fS.1.1, 19, rfl, fS.1.1, ?_⟩
  show wc Z _ _ _ _ _ [kI (S.1 19 7 + 1), kQ (S.2.1 19 0), kQ (some 19)] S
  rw [e20]
  refine c_iv (a := 20) (vs := [kQ (some 20), kI (S.1 19 7 + 1)]) (r := [kQ (some 19)]) nn94 (by simp) rfl nc94 fS.1.2.2.1 (by decide) (cg94w hd fS.1.2.2 mS.2.2) (fun r s' hr => ?_)
  obtain ⟨⟨y, hy, hyr⟩, hs⟩ := hr
  rw [hy, hs]
  exact ⟨19, rfl, fS.1.1, h97 _ (c_MM_u mS (by decide))⟩
theorem c_106b (hd : 6 ≤ d) (h : c_mf s) (h97 : ∀ t, c_MM s t → CP X Z (d + 1) 106 97 [some (kQ (some 19))] [] t (fun r s' => r = .inl none ∧ c_MM s s')) {S : cS} (mS : c_MM s S) : wc Z (fun t L st s' => CP X Z (d + 1) 106 t L st s' (fun r s' => r = .inl none ∧ c_MM s s')) (cC X Z (d + 1)) (fun r s' => r = .inl none ∧ c_MM s s') [.aload 0, .aload 0, .invokeinterface 5 2, .aload 0, .invokeinterface 5 0, .aload 0, .invokeinterface 5 7, .sipush 3, .iadd, .invokevirtual 16, .isub, .sipush 0, .fadd, .multianewarray 5 8, .aload 0, .aload 0, .invokeinterface 5 0, .aload 0, .invokeinterface 5 7, .sipush 1, .iadd, .invokevirtual 94, .multianewarray 5 7, .goto_w 97] [some (kQ (some 19))] [] S := by
  have fS := c_MM_mf h mS
  have e20 : S.2.1 19 0 = some 20 := fS.1.2.1
  refine ⟨19, rfl, fS.1.1, 19, rfl, fS.1.1, 19, rfl, fS.1.1, ?_⟩
  show wc Z _ _ _ _ _ [kI (S.1 19 7 + 3), kQ (S.2.1 19 0), kI (S.1 19 2), kQ (some 19)] S
  rw [e20]
  refine c_iv (a := 20) (vs := [kQ (some 20), kI (S.1 19 7 + 3)]) (r := [kI (S.1 19 2), kQ (some 19)]) nn16 (by simp) rfl nc16 fS.1.2.2.1 (by decide) (cg16w hd fS.1.2.2 mS.2.2) (fun r s' hr => ?_)
  obtain ⟨⟨x, hx, hxr⟩, hs⟩ := hr
  rw [hx, hs]
  exact ⟨by simp, 19, rfl, fS.1.1, c_106a hd h h97 (c_MM_u mS (by decide))⟩
theorem c_106c (hd : 6 ≤ d) (h : c_mf s) (h97 : ∀ t, c_MM s t → CP X Z (d + 1) 106 97 [some (kQ (some 19))] [] t (fun r s' => r = .inl none ∧ c_MM s s')) {S : cS} (mS : c_MM s S) (h5 : 0 ≤ S.1 19 5 ∧ S.1 19 5 < 24) : wc Z (fun t L st s' => CP X Z (d + 1) 106 t L st s' (fun r s' => r = .inl none ∧ c_MM s s')) (cC X Z (d + 1)) (fun r s' => r = .inl none ∧ c_MM s s') [.aload 0, .invokeinterface 5 4, .aload 0, .invokeinterface 5 5, .aload 0, .invokeinterface 5 7, .sipush 4, .iadd, .iastore, .aload 0, .dup, .invokeinterface 5 5, .sipush 1, .iadd, .multianewarray 5 5, .aload 0, .aload 0, .invokeinterface 5 2, .aload 0, .invokeinterface 5 0, .aload 0, .invokeinterface 5 7, .sipush 3, .iadd, .invokevirtual 16, .isub, .sipush 0, .fadd, .multianewarray 5 8, .aload 0, .aload 0, .invokeinterface 5 0, .aload 0, .invokeinterface 5 7, .sipush 1, .iadd, .invokevirtual 94, .multianewarray 5 7, .goto_w 97] [some (kQ (some 19))] [] S := by
  have fS := c_MM_mf h mS
  obtain ⟨g1, g2, g3, g6, g7, g8⟩ := fS
  exact ⟨19, rfl, g1.1, 19, rfl, g1.1, 19, rfl, g1.1, 24, g6, g7, ⟨h5.1, by rw [g8]; exact h5.2, by omega⟩, 19, rfl, g1.1, 19, rfl, g1.1, c_106b hd h h97 (c_MM_u (c_MM_u mS (by decide)) (by decide))⟩
theorem cg106 (hd : 6 ≤ d) (h : c_mf s) (hg : c_rg s) : CG X Z (d + 1) 106 [kQ (some 19)] s (fun r s' => r = .inl none ∧ c_MM s s') := by
  obtain ⟨⟨h1, h1b, h1c⟩, h2, ⟨h3, h4, h5⟩, h6⟩ := h
  have hmf : c_mf s := ⟨⟨h1, h1b, h1c⟩, h2, ⟨h3, h4, h5⟩, h6⟩
  have h97 : ∀ t, c_MM s t → CP X Z (d + 1) 106 97 [some (kQ (some 19))] [] t (fun r s' => r = .inl none ∧ c_MM s s') := fun t ht => c_at nb106_97 (by omega) rfl ⟨rfl, rfl, ht⟩
  have h0 := h97 s (c_MM_rf hg)
  refine c_G_of (L := [some (kQ (some 19))]) (by rw [nl106]; exact Nat.le_of_ble_eq_true rfl) (by rw [nl106]; rfl) ?_
  refine c_at nb106_0 (by omega) rfl ⟨19, rfl, h1, hg _ _, fun _ => h0, fun z => ⟨19, rfl, h1, hg _ _, ⟨by decide, by decide⟩, fun _ => h0, fun z2 => ⟨19, rfl, h1, 19, rfl, h1, 19, rfl, h1, 23, h3, h4, ⟨by omega, by rw [h5]; omega, by omega⟩, c_106c hd hmf h97 (c_MM_u (c_MM_rf hg) (by decide)) ⟨?_, ?_⟩⟩⟩⟩
  · show 0 ≤ s.1 19 5
    omega
  · show s.1 19 5 < 24
    omega
end C5b
