section C6
variable {X : Nat → mm_O} {Z : Nat → List Int32} {d : Nat} {s s' : cS} {v k x : Int}
theorem c_107a (h : c_mf s) (h70 : ∀ t, c_MM s t → CP X Z (d + 2) 107 70 [some (kQ (some 19)), some (kI x)] [] t (fun r s' => r = .inl none ∧ c_MM s s')) {S : cS} (mS : c_MM s S) (h5 : 0 ≤ S.1 19 5 ∧ S.1 19 5 < 24) : wc Z (fun t L st s' => CP X Z (d + 2) 107 t L st s' (fun r s' => r = .inl none ∧ c_MM s s')) (cC X Z (d + 2)) (fun r s' => r = .inl none ∧ c_MM s s') [.aload 0, .aload 0, .invokeinterface 5 4, .aload 0, .invokeinterface 5 5, .iaload, .multianewarray 5 7, .goto_w 70] [some (kQ (some 19)), some (kI x)] [] S := by
  obtain ⟨g1, g2, g3, g6, g7, g8⟩ := c_MM_mf h mS
  exact ⟨19, rfl, g1.1, 19, rfl, g1.1, 24, g6, g7, ⟨h5.1, by rw [g8]; exact h5.2, by omega⟩, 19, rfl, g1.1, h70 _ (c_MM_u mS (by decide))⟩
theorem c_107b (h : c_mf s) (h70 : ∀ t, c_MM s t → CP X Z (d + 2) 107 70 [some (kQ (some 19)), some (kI x)] [] t (fun r s' => r = .inl none ∧ c_MM s s')) {S : cS} (mS : c_MM s S) (h5 : 0 ≤ S.1 19 5 ∧ S.1 19 5 < 24) : wc Z (fun t L st s' => CP X Z (d + 2) 107 t L st s' (fun r s' => r = .inl none ∧ c_MM s s')) (cC X Z (d + 2)) (fun r s' => r = .inl none ∧ c_MM s s') [.aload 0, .aload 0, .invokeinterface 5 3, .aload 0, .invokeinterface 5 5, .iaload, .multianewarray 5 8, .aload 0, .aload 0, .invokeinterface 5 4, .aload 0, .invokeinterface 5 5, .iaload, .multianewarray 5 7, .goto_w 70] [some (kQ (some 19)), some (kI x)] [] S := by
  obtain ⟨g1, g2, ⟨g6, g7, g8⟩, g9⟩ := c_MM_mf h mS
  exact ⟨19, rfl, g1.1, 19, rfl, g1.1, 23, g6, g7, ⟨h5.1, by rw [g8]; exact h5.2, by omega⟩, 19, rfl, g1.1, c_107a h h70 (c_MM_u mS (by decide)) h5⟩
theorem cg107 (hd : 6 ≤ d) (h : c_mf s) (hg : c_rg s) : CG X Z (d + 2) 107 [kQ (some 19)] s (fun r s' => r = .inl none ∧ c_MM s s') := by
  have h70 : ∀ (o : Option cV) (t : cS), c_MM s t → CP X Z (d + 2) 107 70 [some (kQ (some 19)), o] [] t (fun r s' => r = .inl none ∧ c_MM s s') := fun o t ht => c_at nb107_70 (by omega) rfl ⟨rfl, rfl, ht⟩
  have h0 := h70 none s (c_MM_rf hg)
  refine c_G_of (L := [some (kQ (some 19)), none]) (by rw [nl107]; exact Nat.le_of_ble_eq_true rfl) (by rw [nl107]; rfl) ?_
  refine c_at nb107_0 (by omega) rfl ⟨19, rfl, h.1.1, hg _ _, fun _ => h0, fun z => ⟨19, rfl, h.1.1, hg _ _, ⟨by decide, by decide⟩, fun _ => h0, fun z2 => ?_⟩⟩
  refine c_iv (d := d + 1) (a := 19) (vs := [kQ (some 19)]) (r := []) nn103 (by simp) rfl nc103 h.1.1 (by decide) (cg103 hd h hg) (fun r s1 hr => ?_)
  obtain ⟨⟨x, hx, hxr⟩, m1, e1⟩ := hr
  rw [hx]
  have f1 := c_MM_mf h m1
  have m2 : c_MM s (c_uA s1 19 2 (c_w (s1.1 19 8))) := c_MM_u m1 (by decide)
  have f2 := c_MM_mf h m2
  refine ⟨19, rfl, f1.1.1, 19, rfl, f1.1.1, ?_⟩
  refine c_iv (d := d + 1) (a := 19) (vs := [kQ (some 19), kI x]) (r := []) nn101 (by simp) rfl nc101 f2.1.1 (by decide) (cg101 (s := c_uA s1 19 2 (c_w (s1.1 19 8))) (by omega) f2 m2.2.2) (fun r s3 hr => ?_)
  obtain ⟨hr1, m3, e3⟩ := hr
  rw [hr1]
  have m4 := c_MM_tr m2 m3
  have f4 := c_MM_mf h m4
  have e35 : s3.1 19 5 = s.1 19 5 := e3.trans e1
  refine ⟨19, rfl, f4.1.1, 19, rfl, f4.1.1, c_107b h (h70 (some (kI x))) (c_MM_u m4 (by decide)) ?_⟩
  show 0 ≤ n_updA s3.1 19 5 (c_w (s3.1 19 5 - 1)) 19 5 ∧ n_updA s3.1 19 5 (c_w (s3.1 19 5 - 1)) 19 5 < 24
  rw [n_ua_eq, if_pos rfl, e35, c_w_id ⟨by omega, by omega⟩]
  omega
theorem cg100 (hd : 6 ≤ d) (hv : n_rng v) (ht : cT s 19 = 5) (hg : c_rg s) : CG X Z d 100 [kQ (some 19), kI v] s (fun r s' => (∃ x, r = .inl (some (kI x)) ∧ (x = 0 ∨ x = 1)) ∧ s' = s) := by
  have h50 : ∀ x : Int, (x = 0 ∨ x = 1) → CP X Z d 100 50 [some (kQ (some 19)), some (kI v)] [kI x] s (fun r s' => (∃ x, r = .inl (some (kI x)) ∧ (x = 0 ∨ x = 1)) ∧ s' = s) := fun x hx => c_at nb100_50 hd rfl ⟨hx, ⟨x, rfl, hx⟩, rfl⟩
  have h65 : ∀ x : Int, (x = 0 ∨ x = 1) → CP X Z d 100 65 [some (kQ (some 19)), some (kI v)] [kI x] s (fun r s' => (∃ x, r = .inl (some (kI x)) ∧ (x = 0 ∨ x = 1)) ∧ s' = s) := fun x hx => c_at nb100_65 hd rfl ⟨hx, ⟨x, rfl, hx⟩, rfl⟩
  have h36 : CP X Z d 100 36 [some (kQ (some 19)), some (kI v)] [] s (fun r s' => (∃ x, r = .inl (some (kI x)) ∧ (x = 0 ∨ x = 1)) ∧ s' = s) := c_at nb100_36 hd rfl ⟨19, rfl, ht, hg _ _, ⟨by decide, by decide⟩, fun _ => c_at nb100_49 hd rfl (h50 0 (Or.inl rfl)), fun _ => h50 1 (Or.inr rfl)⟩
  have h51 : CP X Z d 100 51 [some (kQ (some 19)), some (kI v)] [] s (fun r s' => (∃ x, r = .inl (some (kI x)) ∧ (x = 0 ∨ x = 1)) ∧ s' = s) := c_at nb100_51 hd rfl ⟨19, rfl, ht, hg _ _, ⟨by decide, by decide⟩, fun _ => c_at nb100_64 hd rfl (h65 0 (Or.inl rfl)), fun _ => h65 1 (Or.inr rfl)⟩
  refine c_G_of (L := [some (kQ (some 19)), some (kI v)]) (by rw [nl100]; exact Nat.le_of_ble_eq_true rfl) (by rw [nl100]; rfl) ?_
  exact c_at nb100_0 hd rfl ⟨hv, ⟨by decide, by decide⟩, fun _ => h36, fun _ => ⟨⟨by decide, by decide⟩, fun _ => h36, fun _ => ⟨⟨by decide, by decide⟩, fun _ => h51, fun _ => c_at nb100_66 hd rfl ⟨Or.inl rfl, ⟨0, rfl, Or.inl rfl⟩, rfl⟩⟩⟩⟩
end C6
