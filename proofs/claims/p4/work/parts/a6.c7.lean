/-! THE CLASS'S MACHINE MAKES A STEP -/
section C7
variable {X : Nat → mm_O} {Z : Nat → List Int32} {d : Nat} {s : cS} {op : Int}
def c_S341 (X : Nat → mm_O) (Z : Nat → List Int32) (d : Nat) (s : cS) (op : Int) : Prop := ∀ t, c_MM s t → CP X Z (d + 3) 99 341 [some (kQ (some 19)), some (kI op)] [] t (fun r s' => r = .inl none ∧ c_MM s s')
theorem c_99t (h : c_mf s) (h341 : c_S341 X Z d s op) {S : cS} (mS : c_MM s S) (n : Int) : wc Z (fun t L st s' => CP X Z (d + 3) 99 t L st s' (fun r s' => r = .inl none ∧ c_MM s s')) (cC X Z (d + 3)) (fun r s' => r = .inl none ∧ c_MM s s') [.aload 0, .dup, .invokeinterface 5 7, .sipush n, .iadd, .multianewarray 5 7, .goto 341] [some (kQ (some 19)), some (kI op)] [] S := by
  have f := c_MM_mf h mS
  exact ⟨19, rfl, f.1.1, 19, rfl, f.1.1, h341 _ (c_MM_u mS (by decide))⟩
theorem c_99_108 (hd : 6 ≤ d) (h : c_mf s) (h341 : c_S341 X Z d s op) {S : cS} (mS : c_MM s S) : CP X Z (d + 3) 99 108 [some (kQ (some 19)), some (kI op)] [] S (fun r s' => r = .inl none ∧ c_MM s s') := by
  have f := c_MM_mf h mS
  have e20 : S.2.1 19 0 = some 20 := f.1.2.1
  refine c_at nb99_108 (by omega) rfl ⟨19, rfl, f.1.1, 19, rfl, f.1.1, ?_⟩
  show wc Z _ _ _ _ _ [kI (S.1 19 7 + 1), kQ (S.2.1 19 0), kQ (some 19)] S
  rw [e20]
  refine c_iv (d := d + 2) (a := 20) (vs := [kQ (some 20), kI (S.1 19 7 + 1)]) (r := [kQ (some 19)]) nn94 (by simp) rfl nc94 f.1.2.2.1 (by decide) (cg94w (by omega) f.1.2.2 mS.2.2) (fun r s' hr => ?_)
  obtain ⟨⟨y, hy, hyr⟩, hs⟩ := hr
  rw [hy, hs]
  refine c_iv (d := d + 2) (a := 19) (vs := [kQ (some 19), kI (n_i2s y)]) (r := []) nn101 (by simp) rfl nc101 f.1.1 (by decide) (cg101 (by omega) f mS.2.2) (fun r s3 hr => ?_)
  rw [hr.1]
  exact c_99t h h341 (c_MM_tr mS hr.2.1) 3
theorem c_99_139 (hd : 6 ≤ d) (h : c_mf s) (h341 : c_S341 X Z d s op) {S : cS} (mS : c_MM s S) : CP X Z (d + 3) 99 139 [some (kQ (some 19)), some (kI op)] [] S (fun r s' => r = .inl none ∧ c_MM s s') := by
  have f := c_MM_mf h mS
  have e20 : S.2.1 19 0 = some 20 := f.1.2.1
  refine c_at nb99_139 (by omega) rfl ⟨19, rfl, f.1.1, 19, rfl, f.1.1, 19, rfl, f.1.1, ?_⟩
  show wc Z _ _ _ _ _ [kI (S.1 19 7 + 1), kQ (S.2.1 19 0), kI (S.1 19 8), kQ (some 19), kQ (some 19)] S
  rw [e20]
  refine c_iv (d := d + 2) (a := 20) (vs := [kQ (some 20), kI (S.1 19 7 + 1)]) (r := [kI (S.1 19 8), kQ (some 19), kQ (some 19)]) nn16 (by simp) rfl nc16 f.1.2.2.1 (by decide) (cg16w (by omega) f.1.2.2 mS.2.2) (fun r s' hr => ?_)
  obtain ⟨⟨y, hy, hyr⟩, hs⟩ := hr
  rw [hy, hs]
  refine c_iv (d := d + 2) (a := 19) (vs := [kQ (some 19), kI (S.1 19 8 + y)]) (r := [kQ (some 19)]) nn25 (by simp) rfl nc25 f.1.1 (by decide) (cg25 (by omega) f mS.2.2) (fun r s' hr => ?_)
  obtain ⟨⟨x, hx, hxr⟩, hs⟩ := hr
  rw [hx, hs]
  refine c_iv (d := d + 2) (a := 19) (vs := [kQ (some 19), kI x]) (r := []) nn101 (by simp) rfl nc101 f.1.1 (by decide) (cg101 (by omega) f mS.2.2) (fun r s3 hr => ?_)
  rw [hr.1]
  exact c_99t h h341 (c_MM_tr mS hr.2.1) 2
theorem c_99_178 (hd : 6 ≤ d) (ho : n_rng op) (h : c_mf s) (h341 : c_S341 X Z d s op) {S : cS} (mS : c_MM s S) : CP X Z (d + 3) 99 178 [some (kQ (some 19)), some (kI op)] [] S (fun r s' => r = .inl none ∧ c_MM s s') := by
  have f := c_MM_mf h mS
  refine c_at nb99_178 (by omega) rfl ?_
  refine c_iv (d := d + 2) (a := 19) (vs := [kQ (some 19), kI op]) (r := []) nn102 (by simp) rfl nc102 f.1.1 (by decide) (cg102 hd ho f mS.2.2) (fun r s3 hr => ?_)
  rw [hr.1]
  exact c_99t h h341 (c_MM_tr mS hr.2) 1
theorem c_99_196 (hd : 6 ≤ d) (h : c_mf s) (h341 : c_S341 X Z d s op) {S : cS} (mS : c_MM s S) : CP X Z (d + 3) 99 196 [some (kQ (some 19)), some (kI op)] [] S (fun r s' => r = .inl none ∧ c_MM s s') := by
  have f := c_MM_mf h mS
  have e20 : S.2.1 19 0 = some 20 := f.1.2.1
  refine c_at nb99_196 (by omega) rfl ⟨19, rfl, f.1.1, 19, rfl, f.1.1, ?_⟩
  show wc Z _ _ _ _ _ [kI (S.1 19 7 + 1), kQ (S.2.1 19 0), kQ (some 19)] S
  rw [e20]
  refine c_iv (d := d + 2) (a := 20) (vs := [kQ (some 20), kI (S.1 19 7 + 1)]) (r := [kQ (some 19)]) nn94 (by simp) rfl nc94 f.1.2.2.1 (by decide) (cg94w (by omega) f.1.2.2 mS.2.2) (fun r s' hr => ?_)
  obtain ⟨⟨y, hy, hyr⟩, hs⟩ := hr
  rw [hy, hs]
  exact ⟨19, rfl, f.1.1, h341 _ (c_MM_u mS (by decide))⟩
theorem c_99_216 (hd : 6 ≤ d) (h : c_mf s) (h341 : c_S341 X Z d s op) {S : cS} (mS : c_MM s S) : CP X Z (d + 3) 99 216 [some (kQ (some 19)), some (kI op)] [] S (fun r s' => r = .inl none ∧ c_MM s s') := by
  have f := c_MM_mf h mS
  have h246 : ∀ (T : cS) (y : Int), c_MM s T → CP X Z (d + 3) 99 246 [some (kQ (some 19)), some (kI op)] [kI y, kQ (some 19)] T (fun r s' => r = .inl none ∧ c_MM s s') := fun T y mT => c_at nb99_246 (by omega) rfl ⟨19, rfl, (c_MM_mf h mT).1.1, h341 _ (c_MM_u mT (by decide))⟩
  refine c_at nb99_216 (by omega) rfl ?_
  refine c_iv (d := d + 2) (a := 19) (vs := [kQ (some 19)]) (r := [kQ (some 19)]) nn103 (by simp) rfl nc103 f.1.1 (by decide) (cg103 (d := d + 1) (by omega) f mS.2.2) (fun r s1 hr => ?_)
  obtain ⟨⟨x, hx, hxr⟩, m1, -⟩ := hr
  rw [hx]
  have m2 := c_MM_tr mS m1
  have f2 := c_MM_mf h m2
  have e20 : s1.2.1 19 0 = some 20 := f2.1.2.1
  refine ⟨hxr, fun _ => c_at nb99_240 (by omega) rfl ⟨19, rfl, f2.1.1, h246 s1 _ m2⟩, fun _ => ⟨19, rfl, f2.1.1, 19, rfl, f2.1.1, ?_⟩⟩
  show wc Z _ _ _ _ _ [kI (s1.1 19 7 + 1), kQ (s1.2.1 19 0), kQ (some 19)] s1
  rw [e20]
  refine c_iv (d := d + 2) (a := 20) (vs := [kQ (some 20), kI (s1.1 19 7 + 1)]) (r := [kQ (some 19)]) nn94 (by simp) rfl nc94 f2.1.2.2.1 (by decide) (cg94w (by omega) f2.1.2.2 m2.2.2) (fun r s' hr => ?_)
  obtain ⟨⟨y, hy, hyr⟩, hs⟩ := hr
  rw [hy, hs]
  exact h246 s1 y m2
theorem c_99_252 (hd : 6 ≤ d) (h : c_mf s) (h341 : c_S341 X Z d s op) {S : cS} (mS : c_MM s S) : CP X Z (d + 3) 99 252 [some (kQ (some 19)), some (kI op)] [] S (fun r s' => r = .inl none ∧ c_MM s s') := by
  have f := c_MM_mf h mS
  refine c_at nb99_252 (by omega) rfl ?_
  refine c_iv (d := d + 2) (a := 19) (vs := [kQ (some 19)]) (r := []) nn104 (by simp) rfl nc104 f.1.1 (by decide) (cg104 hd f mS.2.2) (fun r s3 hr => ?_)
  rw [hr.1]
  exact c_99t h h341 (c_MM_tr mS hr.2) 1
theorem c_99_269 (hd : 6 ≤ d) (h : c_mf s) (h341 : c_S341 X Z d s op) {S : cS} (mS : c_MM s S) : CP X Z (d + 3) 99 269 [some (kQ (some 19)), some (kI op)] [] S (fun r s' => r = .inl none ∧ c_MM s s') := by
  have f := c_MM_mf h mS
  refine c_at nb99_269 (by omega) rfl ?_
  refine c_iv (d := d + 2) (a := 19) (vs := [kQ (some 19)]) (r := []) nn103 (by simp) rfl nc103 f.1.1 (by decide) (cg103 (d := d + 1) (by omega) f mS.2.2) (fun r s3 hr => ?_)
  obtain ⟨⟨x, hx, hxr⟩, m1, -⟩ := hr
  rw [hx]
  exact c_99t h h341 (c_MM_tr mS m1) 1
theorem c_99_287 (hd : 6 ≤ d) (h : c_mf s) (h341 : c_S341 X Z d s op) {S : cS} (mS : c_MM s S) : CP X Z (d + 3) 99 287 [some (kQ (some 19)), some (kI op)] [] S (fun r s' => r = .inl none ∧ c_MM s s') := by
  have f := c_MM_mf h mS
  have e20 : S.2.1 19 0 = some 20 := f.1.2.1
  refine c_at nb99_287 (by omega) rfl ⟨19, rfl, f.1.1, 19, rfl, f.1.1, 19, rfl, f.1.1, ?_⟩
  show wc Z _ _ _ _ _ [kI (S.1 19 7 + 1), kQ (S.2.1 19 0), kI (S.1 19 8), kQ (some 19)] S
  rw [e20]
  refine c_iv (d := d + 2) (a := 20) (vs := [kQ (some 20), kI (S.1 19 7 + 1)]) (r := [kI (S.1 19 8), kQ (some 19)]) nn16 (by simp) rfl nc16 f.1.2.2.1 (by decide) (cg16w (by omega) f.1.2.2 mS.2.2) (fun r s' hr => ?_)
  obtain ⟨⟨y, hy, hyr⟩, hs⟩ := hr
  rw [hy, hs]
  refine c_iv (d := d + 2) (a := 19) (vs := [kQ (some 19), kI (S.1 19 8 + y)]) (r := []) nn105 (by simp) rfl nc105 f.1.1 (by decide) (cg105 (d := d + 1) (by omega) f mS.2.2) (fun r s3 hr => ?_)
  rw [hr.1]
  exact c_99t h h341 (c_MM_tr mS hr.2) 2
theorem cg99 (hd : 6 ≤ d) (h : c_mf s) (hg : c_rg s) : CG X Z (d + 3) 99 [kQ (some 19)] s (fun r s' => r = .inl none ∧ c_MM s s') := by
  have e20 : s.2.1 19 0 = some 20 := h.1.2.1
  refine c_G_of (L := [some (kQ (some 19)), none]) (by rw [nl99]; exact Nat.le_of_ble_eq_true rfl) (by rw [nl99]; rfl) ?_
  refine c_at nb99_0 (by omega) rfl ⟨19, rfl, h.1.1, 19, rfl, h.1.1, ?_⟩
  show wc Z _ _ _ _ _ [kI (s.1 19 7), kQ (s.2.1 19 0)] s
  rw [e20]
  refine c_iv (d := d + 2) (a := 20) (vs := [kQ (some 20), kI (s.1 19 7)]) (r := []) nn16 (by simp) rfl nc16 h.1.2.2.1 (by decide) (cg16w (by omega) h.1.2.2 hg) (fun r s' hr => ?_)
  obtain ⟨⟨op, hop, hor⟩, hs⟩ := hr
  rw [hop, hs]
  have h341 : c_S341 X Z d s op := fun t ht => c_at nb99_341 (by omega) rfl ⟨rfl, rfl, ht⟩
  refine c_iv (d := d + 2) (a := 19) (vs := [kQ (some 19), kI op]) (r := []) nn100 (by simp) rfl nc100 h.1.1 (by decide) (cg100 (by omega) hor h.1.1 hg) (fun r s' hr => ?_)
  obtain ⟨⟨x, hx, hxr⟩, hs⟩ := hr
  rw [hx, hs]
  refine ⟨⟨by omega, by omega⟩, fun _ => ?_, fun _ => ⟨19, rfl, h.1.1, rfl, rfl, c_MM_u (c_MM_rf hg) (by decide)⟩⟩
  have mS : c_MM s (c_uA s 19 9 (c_w (s.1 19 9 + 1))) := c_MM_u (c_MM_rf hg) (by decide)
  have r : ∀ k : Int, 0 ≤ k ∧ k < 100 → n_rng k := fun k hk => ⟨by omega, by omega⟩
  refine c_at nb99_26 (by omega) rfl ⟨19, rfl, h.1.1, 19, rfl, h.1.1, hor, ?_⟩
  have h178 := c_99_178 (X := X) (Z := Z) hd hor h h341 mS
  exact ⟨r _ (by decide), fun _ => c_99_108 hd h h341 mS, fun _ => ⟨r _ (by decide), fun _ => c_99_139 hd h h341 mS, fun _ => ⟨r _ (by decide), fun _ => h178, fun _ => ⟨r _ (by decide), fun _ => h178, fun _ => ⟨r _ (by decide), fun _ => h178, fun _ => ⟨r _ (by decide), fun _ => h178, fun _ => ⟨r _ (by decide), fun _ => h178, fun _ => ⟨r _ (by decide), fun _ => c_99_196 hd h h341 mS, fun _ => ⟨r _ (by decide), fun _ => c_99_216 hd h h341 mS, fun _ => ⟨r _ (by decide), fun _ => c_99_252 hd h h341 mS, fun _ => ⟨r _ (by decide), fun _ => c_99_269 hd h h341 mS, fun _ => ⟨r _ (by decide), fun _ => c_99_287 hd h h341 mS, fun _ => ⟨r _ (by decide), fun _ => c_at nb99_322 (by omega) rfl (c_iv (d := d + 2) (a := 19) (vs := [kQ (some 19)]) (r := []) nn106 (by simp) rfl nc106 h.1.1 (by decide) (cg106 (d := d + 1) (by omega) (c_MM_mf h mS) mS.2.2) (fun r s3 hr => by rw [hr.1]; exact h341 s3 (c_MM_tr mS hr.2))), fun _ => ⟨r _ (by decide), fun _ => c_at nb99_329 (by omega) rfl (c_iv (d := d + 2) (a := 19) (vs := [kQ (some 19)]) (r := []) nn107 (by simp) rfl nc107 h.1.1 (by decide) (cg107 hd (c_MM_mf h mS) mS.2.2) (fun r s3 hr => by rw [hr.1]; exact h341 s3 (c_MM_tr mS hr.2))), fun _ => c_at nb99_336 (by omega) rfl ⟨19, rfl, h.1.1, h341 _ (c_MM_u mS (by decide))⟩⟩⟩⟩⟩⟩⟩⟩⟩⟩⟩⟩⟩⟩⟩
/-- many steps -/
theorem c_l98 (hd : 6 ≤ d) (h : c_mf s) {n : Int} (hn : n_rng n) (hn5 : n ≤ 500) : ∀ (m : Nat) (t : cS) (k : Int), c_MM s t → (0 ≤ k ∧ k ≤ 600) → 501 ≤ k + m → CP X Z (d + 4) 98 2 [some (kQ (some 19)), some (kI n), some (kI k)] [] t (fun r s' => (∃ x, r = .inl (some (kI x))) ∧ c_MM s s') := by
  intro m
  induction m with
  | zero =>
    intro t k mt hk hm
    exact c_at nb98_2 (by omega) rfl ⟨⟨by omega, by omega⟩, hn, fun _ => c_at nb98_25 (by omega) rfl ⟨⟨k, rfl⟩, mt⟩, fun z => by omega⟩
  | succ m ih =>
    intro t k mt hk hm
    have f := c_MM_mf h mt
    have h25 : CP X Z (d + 4) 98 25 [some (kQ (some 19)), some (kI n), some (kI k)] [] t (fun r s' => (∃ x, r = .inl (some (kI x))) ∧ c_MM s s') := c_at nb98_25 (by omega) rfl ⟨⟨k, rfl⟩, mt⟩
    refine c_at nb98_2 (by omega) rfl ⟨⟨by omega, by omega⟩, hn, fun _ => h25, fun z => ⟨19, rfl, f.1.1, mt.2.2 _ _, ⟨by decide, by decide⟩, fun _ => h25, fun z2 => ?_⟩⟩
    refine c_iv (d := d + 3) (a := 19) (vs := [kQ (some 19)]) (r := []) nn99 (by simp) rfl nc99 f.1.1 (by decide) (cg99 hd f mt.2.2) (fun r s3 hr => ?_)
    rw [hr.1]
    exact ih s3 (k + 1) (c_MM_tr mt hr.2) (by omega) (by omega)
theorem cg98 (hd : 6 ≤ d) (h : c_mf s) (hg : c_rg s) {n : Int} (hn : n_rng n) (hn5 : n ≤ 500) : CG X Z (d + 4) 98 [kQ (some 19), kI n] s (fun r s' => (∃ x, r = .inl (some (kI x))) ∧ c_MM s s') := by
  refine c_G_of (L := [some (kQ (some 19)), some (kI n), none]) (by rw [nl98]; exact Nat.le_of_ble_eq_true rfl) (by rw [nl98]; rfl) ?_
  refine c_at nb98_0 (by omega) rfl ?_
  exact c_l98 hd h hn hn5 501 s 0 (c_MM_rf hg) (by omega) (by omega)
theorem cg22 (hd : 6 ≤ d) (h : cT s 19 = 5) (hg : c_rg s) : CG X Z d 22 [kQ (some 19)] s (fun r s' => r = .inl none ∧ c_MM s s') := by
  refine c_G_of (L := [some (kQ (some 19))]) (by rw [nl22]; exact Nat.le_of_ble_eq_true rfl) (by rw [nl22]; rfl) ?_
  exact c_at nb22_0 hd rfl ⟨19, rfl, h, 19, rfl, h, 19, rfl, h, 19, rfl, h, 19, rfl, h, 19, rfl, h, rfl, rfl, c_MM_u (c_MM_u (c_MM_u (c_MM_u (c_MM_u (c_MM_u (c_MM_rf hg) (by decide)) (by decide)) (by decide)) (by decide)) (by decide)) (by decide)⟩
end C7
