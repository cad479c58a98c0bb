set_option maxRecDepth 100000 in
theorem p1_b14_0 : mm_blk 14 0 = some [.iload 1, .ifCond .lt 21, .iload 1, .aload 0, .invokeinterface 8 1, .if_icmp .ge 21, .aload 0, .invokeinterface 8 0, .iload 1, .aaload, .goto 22] := by decide +kernel
set_option maxRecDepth 100000 in
theorem p1_b14_21 : mm_blk 14 21 = some [.aconst_null, .goto_w 22] := by decide +kernel
set_option maxRecDepth 100000 in
theorem p1_b14_22 : mm_blk 14 22 = some [.areturn] := by decide +kernel
set_option maxRecDepth 100000 in
theorem p1_b13_0 : mm_blk 13 0 = some [.aload 0, .invokeinterface 0 2, .iload 1, .invokevirtual 14, .astore 3, .aload 3, .ifnull 21, .aload 3, .invokeinterface 9 0, .sipush (2), .if_icmp .ne 25, .goto_w 21] := by decide +kernel
set_option maxRecDepth 100000 in
theorem p1_b13_21 : mm_blk 13 21 = some [.sipush (-1), .goto 33] := by decide +kernel
set_option maxRecDepth 100000 in
theorem p1_b13_33 : mm_blk 13 33 = some [.ireturn] := by decide +kernel
set_option maxRecDepth 100000 in
theorem p1_b144_0 : mm_blk 144 0 = some [.aload 0, .sipush (0), .multianewarray 10 0, .iload 1, .ifCond .lt 27, .iload 1, .aload 0, .invokeinterface 10 2, .if_icmp .ge 27, .aload 0, .invokeinterface 10 6, .iload 1, .iaload, .sipush (2), .if_icmp .ne 29, .goto_w 27] := by decide +kernel
set_option maxRecDepth 100000 in
theorem p1_b144_27 : mm_blk 144 27 = some [.sipush (-1), .ireturn] := by decide +kernel
set_option maxRecDepth 100000 in
theorem p1_b167_218 : mm_blk 167 218 = some [.aload 1, .aload 0, .iload 4, .sipush (1), .iadd, .iaload, .aload 0, .iload 4, .sipush (2), .iadd, .iaload, .invokevirtual 13, .aload 2, .aload 0, .iload 4, .sipush (1), .iadd, .iaload, .aload 0, .iload 4, .sipush (2), .iadd, .iaload, .invokevirtual 144, .if_icmp .eq 480, .sipush (0), .freturn] := by decide +kernel
set_option maxRecDepth 100000 in
theorem p1_ml13 : mm_ml 13 = 4 := by decide +kernel
set_option maxRecDepth 100000 in
theorem p1_na13 : mm_na 13 = 3 := by decide +kernel
set_option maxRecDepth 100000 in
theorem p1_ci13 : mm_ci 13 = 0 := by decide +kernel
set_option maxRecDepth 100000 in
theorem p1_ml14 : mm_ml 14 = 2 := by decide +kernel
set_option maxRecDepth 100000 in
theorem p1_na14 : mm_na 14 = 2 := by decide +kernel
set_option maxRecDepth 100000 in
theorem p1_ci14 : mm_ci 14 = 8 := by decide +kernel
set_option maxRecDepth 100000 in
theorem p1_ml144 : mm_ml 144 = 11 := by decide +kernel
set_option maxRecDepth 100000 in
theorem p1_na144 : mm_na 144 = 3 := by decide +kernel
set_option maxRecDepth 100000 in
theorem p1_ci144 : mm_ci 144 = 10 := by decide +kernel
set_option maxRecDepth 100000 in
theorem p1_Fh_0_0_2 : mm_fld p1_h 0 0 2 = some (vR 5) := by decide +kernel
set_option maxRecDepth 100000 in
theorem p1_Fh_5_8_1 : mm_fld p1_h 5 8 1 = some (vI 0) := by decide +kernel
set_option maxRecDepth 100000 in
theorem p1_Fm_25_10_2 : mm_fld p1_m 25 10 2 = some (vI 0) := by decide +kernel
set_option maxRecDepth 100000 in
theorem p1_G14 {Z : Nat → List Int32} {u : Int32} : mm_G Z 10 14 [vR 5, vI u] p1_h (fun r h => r = aX vN ∧ h = p1_h) := by
  have h22 : mm_P Z 10 14 22 [some (vR 5), some (vI u)] [vN] p1_h (fun r h => r = aX vN ∧ h = p1_h) := mm_at_blk p1_b14_22 (by omega) (Or.inl rfl) ⟨rfl, rfl⟩
  have h21 : mm_P Z 10 14 21 [some (vR 5), some (vI u)] [] p1_h (fun r h => r = aX vN ∧ h = p1_h) := mm_at_blk p1_b14_21 (by omega) (Or.inl rfl) (mm_st rfl rfl h22)
  refine mm_G_of (by rw [p1_ml14]; exact Nat.le_refl _) ?_
  rw [p1_ml14]
  refine mm_at_blk (L := [some (vR 5), some (vI u)]) p1_b14_0 (by omega) (Or.inl rfl) ?_
  refine mm_st rfl rfl ?_
  refine ⟨fun _ => h21, fun z => ?_⟩
  refine mm_st rfl rfl ?_
  refine mm_st rfl rfl ?_
  refine mm_gf p1_Fh_5_8_1 ?_
  refine ⟨fun _ => h21, fun z2 => ?_⟩
  exact absurd (Int32.not_lt.mp z) z2
set_option maxRecDepth 100000 in
theorem p1_G13 {Z : Nat → List Int32} {u k : Int32} : mm_G Z 11 13 [vR 0, vI u, vI k] p1_h (fun r h => r = aX (vI (-1)) ∧ h = p1_h) := by
  have h33 : mm_P Z 11 13 33 [some (vR 0), some (vI u), some (vI k), some vN] [vI (-1)] p1_h (fun r h => r = aX (vI (-1)) ∧ h = p1_h) := mm_at_blk p1_b13_33 (by omega) (Or.inl rfl) ⟨rfl, rfl⟩
  have h21 : mm_P Z 11 13 21 [some (vR 0), some (vI u), some (vI k), some vN] [] p1_h (fun r h => r = aX (vI (-1)) ∧ h = p1_h) := mm_at_blk p1_b13_21 (by omega) (Or.inl rfl) (mm_st rfl rfl h33)
  refine mm_G_of (by rw [p1_ml13]; exact Nat.le_succ _) ?_
  rw [p1_ml13]
  refine mm_at_blk (L := [some (vR 0), some (vI u), some (vI k), none]) p1_b13_0 (by omega) (Or.inl rfl) ?_
  refine mm_st rfl rfl ?_
  refine mm_gf p1_Fh_0_0_2 ?_
  refine mm_st rfl rfl ?_
  refine mm_iv (d := 10) (vs := [vR 5, vI u]) (r := []) p1_na14 (by simp) (by rw [p1_ci14]; exact p1_R5) p1_G14 (fun r h hr => ?_)
  obtain ⟨rfl, rfl⟩ := hr
  show mm_wp _ _ _ _ _ _ _ _ _ _ _ _
  refine mm_st (L' := [some (vR 0), some (vI u), some (vI k), some vN]) (st' := []) (h' := p1_h) rfl rfl ?_
  refine mm_st rfl rfl ?_
  exact ⟨fun _ => h21, fun z => absurd rfl z⟩
set_option maxRecDepth 100000 in
theorem p1_G144 {Z : Nat → List Int32} {u k : Int32} : mm_G Z 11 144 [vR 25, vI u, vI k] p1_h (fun r _ => r = aX (vI (-1))) := by
  have h27 : mm_P Z 11 144 27 [some (vR 25), some (vI u), some (vI k), none, none, none, none, none, none, none, none] [] p1_m (fun r _ => r = aX (vI (-1))) := mm_at_blk p1_b144_27 (by omega) (Or.inl rfl) (mm_st rfl rfl rfl)
  refine mm_G_of (by rw [p1_ml144]; exact Nat.le_of_ble_eq_true rfl) ?_
  rw [p1_ml144]
  refine mm_at_blk (L := [some (vR 25), some (vI u), some (vI k), none, none, none, none, none, none, none, none]) p1_b144_0 (by omega) (Or.inl rfl) ?_
  refine mm_st rfl rfl ?_
  refine mm_st rfl rfl ?_
  refine mm_pfi p1_K0 p1_put_eq ?_
  refine mm_st rfl rfl ?_
  refine ⟨fun _ => h27, fun z => ?_⟩
  refine mm_st rfl rfl ?_
  refine mm_st rfl rfl ?_
  refine mm_gf p1_Fm_25_10_2 ?_
  refine ⟨fun _ => h27, fun z2 => ?_⟩
  exact absurd (Int32.not_lt.mp z) z2
set_option maxRecDepth 100000 in
theorem p1_c218 {Z : Nat → List Int32} (hn : (Z 1).length = 3) : mm_P Z 12 167 218 (p1_L 0 none none) [] p1_h p1_Post := by
  obtain ⟨u, k, hu, hk⟩ := p1_z hn
  refine mm_at_blk p1_b167_218 (by omega) (Or.inl rfl) ?_
  refine mm_st rfl rfl ?_
  refine mm_st rfl rfl ?_
  refine mm_st rfl rfl ?_
  refine mm_st rfl rfl ?_
  refine mm_st rfl rfl ?_
  refine mm_zi hu ?_
  refine mm_st rfl rfl ?_
  refine mm_st rfl rfl ?_
  refine mm_st rfl rfl ?_
  refine mm_st rfl rfl ?_
  refine mm_zi hk ?_
  refine mm_iv (d := 11) (vs := [vR 0, vI u, vI k]) (r := []) p1_na13 (by simp) (by rw [p1_ci13]; exact p1_R0) p1_G13 (fun r h hr => ?_)
  obtain ⟨rfl, rfl⟩ := hr
  show mm_wp _ _ _ _ _ _ _ _ _ _ _ _
  refine mm_st rfl rfl ?_
  refine mm_st rfl rfl ?_
  refine mm_st rfl rfl ?_
  refine mm_st rfl rfl ?_
  refine mm_st rfl rfl ?_
  refine mm_zi hu ?_
  refine mm_st rfl rfl ?_
  refine mm_st rfl rfl ?_
  refine mm_st rfl rfl ?_
  refine mm_st rfl rfl ?_
  refine mm_zi hk ?_
  refine mm_iv (d := 11) (vs := [vR 25, vI u, vI k]) (r := [vI (-1)]) p1_na144 (by simp) (by rw [p1_ci144]; exact p1_R25) p1_G144 (fun r h hr => ?_)
  subst hr
  show mm_wp _ _ _ _ _ _ _ _ _ _ _ _
  exact ⟨fun _ => p1_480 hn (Nat.le_refl _), fun z => absurd rfl z⟩
