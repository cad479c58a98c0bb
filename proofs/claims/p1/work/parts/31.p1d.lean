set_option maxRecDepth 100000 in
theorem p1_K0 : (mm_K 10)[0]? = some .int := rfl
set_option maxRecDepth 100000 in
theorem p1_na24 : mm_na 24 = 2 := by decide +kernel
set_option maxRecDepth 100000 in
theorem p1_ci24 : mm_ci 24 = 0 := by decide +kernel
set_option maxRecDepth 100000 in
theorem p1_na165 : mm_na 165 = 2 := by decide +kernel
set_option maxRecDepth 100000 in
theorem p1_ci165 : mm_ci 165 = 10 := by decide +kernel
set_option maxRecDepth 100000 in
theorem p1_na20 : mm_na 20 = 2 := by decide +kernel
set_option maxRecDepth 100000 in
theorem p1_ci20 : mm_ci 20 = 0 := by decide +kernel
set_option maxRecDepth 100000 in
theorem p1_na157 : mm_na 157 = 2 := by decide +kernel
set_option maxRecDepth 100000 in
theorem p1_ci157 : mm_ci 157 = 10 := by decide +kernel
set_option maxRecDepth 100000 in
theorem p1_na23 : mm_na 23 = 2 := by decide +kernel
set_option maxRecDepth 100000 in
theorem p1_ci23 : mm_ci 23 = 0 := by decide +kernel
set_option maxRecDepth 100000 in
theorem p1_na164 : mm_na 164 = 2 := by decide +kernel
set_option maxRecDepth 100000 in
theorem p1_ci164 : mm_ci 164 = 10 := by decide +kernel
set_option maxRecDepth 100000 in
theorem p1_na15 : mm_na 15 = 2 := by decide +kernel
set_option maxRecDepth 100000 in
theorem p1_ci15 : mm_ci 15 = 1 := by decide +kernel
set_option maxRecDepth 100000 in
theorem p1_na16 : mm_na 16 = 2 := by decide +kernel
set_option maxRecDepth 100000 in
theorem p1_ci16 : mm_ci 16 = 1 := by decide +kernel
set_option maxRecDepth 100000 in
theorem p1_na25 : mm_na 25 = 2 := by decide +kernel
set_option maxRecDepth 100000 in
theorem p1_ci25 : mm_ci 25 = 5 := by decide +kernel
set_option maxRecDepth 100000 in
theorem p1_R0 : mm_rcvb p1_h [vR 0] 0 = true := by decide +kernel
set_option maxRecDepth 100000 in
theorem p1_R25 : mm_rcvb p1_h [vR 25] 10 = true := by decide +kernel
set_option maxRecDepth 100000 in
theorem p1_R19 : mm_rcvb p1_h [vR 19] 5 = true := by decide +kernel
set_option maxRecDepth 100000 in
theorem p1_R20 : mm_rcvb p1_h [vR 20] 1 = true := by decide +kernel
set_option maxRecDepth 100000 in
theorem p1_R5 : mm_rcvb p1_h [vR 5] 8 = true := by decide +kernel
set_option maxRecDepth 100000 in
/-- a case of the law with one number -/
theorem p1_case1 {Z : Nat → List Int32} {pc m1 m2 : Nat} (hb : mm_blk 167 pc = some [.aload 1, .aload 0, .iload 4, .sipush (1), .iadd, .iaload, .invokevirtual m1, .aload 2, .aload 0, .iload 4, .sipush (1), .iadd, .iaload, .invokevirtual m2, .if_icmp .eq 480, .sipush (0), .freturn]) (hn : (Z 1).length = 3) (n1 : mm_na m1 = 2) (n2 : mm_na m2 = 2) (c1 : mm_ci m1 = 0) (c2 : mm_ci m2 = 10)
    (G : ∀ k : Int32, ∃ y : Int32, mm_G Z 11 m1 [vR 0, vI k] p1_h (fun r h => r = aX (vI y) ∧ h = p1_h) ∧ mm_G Z 11 m2 [vR 25, vI k] p1_h (fun r _ => r = aX (vI y))) : mm_P Z 12 167 pc (p1_L 0 none none) [] p1_h p1_Post := by
  obtain ⟨k, -, hk, -⟩ := p1_z hn
  obtain ⟨y, g1, g2⟩ := G k
  refine mm_at_blk hb (by omega) (Or.inl rfl) ?_
  refine mm_st rfl rfl ?_
  refine mm_st rfl rfl ?_
  refine mm_st rfl rfl ?_
  refine mm_st rfl rfl ?_
  refine mm_st rfl rfl ?_
  refine mm_zi hk ?_
  refine mm_iv (d := 11) (vs := [vR 0, vI k]) (r := []) n1 (by simp) (by rw [c1]; exact p1_R0) g1 (fun r h hr => ?_)
  obtain ⟨rfl, rfl⟩ := hr
  show mm_wp _ _ _ _ _ _ _ _ _ _ _ _
  refine mm_st rfl rfl ?_
  refine mm_st rfl rfl ?_
  refine mm_st rfl rfl ?_
  refine mm_st rfl rfl ?_
  refine mm_st rfl rfl ?_
  refine mm_zi hk ?_
  refine mm_iv (d := 11) (vs := [vR 25, vI k]) (r := [vI y]) n2 (by simp) (by rw [c2]; exact p1_R25) g2 (fun r h hr => ?_)
  subst hr
  show mm_wp _ _ _ _ _ _ _ _ _ _ _ _
  exact ⟨fun _ => p1_480 hn (Nat.le_refl _), fun z => absurd rfl z⟩
set_option maxRecDepth 100000 in
theorem p1_b24_0 : mm_blk 24 0 = some [.aload 0, .invokeinterface 0 5, .iload 1, .invokevirtual 25, .ireturn] := by decide +kernel
set_option maxRecDepth 100000 in
theorem p1_ml24 : mm_ml 24 = 2 := by decide +kernel
set_option maxRecDepth 100000 in
theorem p1_Fh_0_0_5 : mm_fld p1_h 0 0 5 = some (vR 19) := by decide +kernel
set_option maxRecDepth 100000 in
theorem p1_G24 {Z : Nat → List Int32} {k : Int32} : mm_G Z 11 24 [vR 0, vI k] p1_h (fun r h => r = aX (vI 0) ∧ h = p1_h) := by
  refine mm_G_of (by rw [p1_ml24]; exact Nat.le_refl _) ?_
  rw [p1_ml24]
  refine mm_at_blk (L := [some (vR 0), some (vI k)]) p1_b24_0 (by omega) (Or.inl rfl) ?_
  refine mm_st rfl rfl ?_
  refine mm_gf p1_Fh_0_0_5 ?_
  refine mm_st rfl rfl ?_
  refine mm_iv (d := 10) (vs := [vR 19, vI k]) (r := []) p1_na25 (by simp) (by rw [p1_ci25]; exact p1_R19) p1_G25 (fun r h hr => ?_)
  obtain ⟨rfl, rfl⟩ := hr
  exact ⟨rfl, rfl⟩
set_option maxRecDepth 100000 in
theorem p1_b165_0 : mm_blk 165 0 = some [.aload 0, .sipush (0), .multianewarray 10 0, .iload 1, .ifCond .lt 26, .iload 1, .aload 0, .invokeinterface 10 51, .if_icmp .ge 26, .aload 0, .invokeinterface 10 54, .iload 1, .iaload, .goto 27] := by decide +kernel
set_option maxRecDepth 100000 in
theorem p1_b165_26 : mm_blk 165 26 = some [.sipush (0), .goto_w 27] := by decide +kernel
set_option maxRecDepth 100000 in
theorem p1_b165_27 : mm_blk 165 27 = some [.ireturn] := by decide +kernel
set_option maxRecDepth 100000 in
theorem p1_ml165 : mm_ml 165 = 2 := by decide +kernel
set_option maxRecDepth 100000 in
theorem p1_Fm_25_10_51 : mm_fld p1_m 25 10 51 = some (vI 0) := by decide +kernel
set_option maxRecDepth 100000 in
theorem p1_G165 {Z : Nat → List Int32} {k : Int32} : mm_G Z 11 165 [vR 25, vI k] p1_h (fun r _ => r = aX (vI 0)) := by
  have h27 : mm_P Z 11 165 27 [some (vR 25), some (vI k)] [vI 0] p1_m (fun r _ => r = aX (vI 0)) := mm_at_blk (L := [some (vR 25), some (vI k)]) p1_b165_27 (by omega) (Or.inl rfl) (rfl)
  have h26 : mm_P Z 11 165 26 [some (vR 25), some (vI k)] [] p1_m (fun r _ => r = aX (vI 0)) := mm_at_blk (L := [some (vR 25), some (vI k)]) p1_b165_26 (by omega) (Or.inl rfl) (mm_st rfl rfl h27)
  refine mm_G_of (by rw [p1_ml165]; exact Nat.le_refl _) ?_
  rw [p1_ml165]
  refine mm_at_blk (L := [some (vR 25), some (vI k)]) p1_b165_0 (by omega) (Or.inl rfl) ?_
  refine mm_st rfl rfl ?_
  refine mm_st rfl rfl ?_
  refine mm_pfi p1_K0 p1_put_eq ?_
  refine mm_st rfl rfl ?_
  refine ⟨fun _ => h26, fun z => ?_⟩
  refine mm_st rfl rfl ?_
  refine mm_st rfl rfl ?_
  refine mm_gf p1_Fm_25_10_51 ?_
  refine ⟨fun _ => h26, fun z2 => ?_⟩
  exact absurd (Int32.not_lt.mp z) z2
set_option maxRecDepth 100000 in
theorem p1_b23_0 : mm_blk 23 0 = some [.iload 1, .lookupswitch 88 #[(0, 40), (1, 48), (2, 56), (3, 64), (4, 72), (5, 80)]] := by decide +kernel
set_option maxRecDepth 100000 in
theorem p1_b23_40 : mm_blk 23 40 = some [.aload 0, .invokeinterface 0 5, .invokeinterface 5 6, .ireturn] := by decide +kernel
set_option maxRecDepth 100000 in
theorem p1_b23_48 : mm_blk 23 48 = some [.aload 0, .invokeinterface 0 5, .invokeinterface 5 7, .ireturn] := by decide +kernel
set_option maxRecDepth 100000 in
theorem p1_b23_56 : mm_blk 23 56 = some [.aload 0, .invokeinterface 0 5, .invokeinterface 5 8, .ireturn] := by decide +kernel
set_option maxRecDepth 100000 in
theorem p1_b23_64 : mm_blk 23 64 = some [.aload 0, .invokeinterface 0 5, .invokeinterface 5 2, .ireturn] := by decide +kernel
set_option maxRecDepth 100000 in
theorem p1_b23_72 : mm_blk 23 72 = some [.aload 0, .invokeinterface 0 5, .invokeinterface 5 5, .ireturn] := by decide +kernel
set_option maxRecDepth 100000 in
theorem p1_b23_80 : mm_blk 23 80 = some [.aload 0, .invokeinterface 0 5, .invokeinterface 5 9, .ireturn] := by decide +kernel
set_option maxRecDepth 100000 in
theorem p1_b23_88 : mm_blk 23 88 = some [.sipush (-1), .ireturn] := by decide +kernel
set_option maxRecDepth 100000 in
theorem p1_ml23 : mm_ml 23 = 2 := by decide +kernel
set_option maxRecDepth 100000 in
theorem p1_Fh_19_5_6 : mm_fld p1_h 19 5 6 = some (vI 0) := by decide +kernel
set_option maxRecDepth 100000 in
theorem p1_Fh_19_5_7 : mm_fld p1_h 19 5 7 = some (vI 0) := by decide +kernel
set_option maxRecDepth 100000 in
theorem p1_Fh_19_5_8 : mm_fld p1_h 19 5 8 = some (vI 0) := by decide +kernel
set_option maxRecDepth 100000 in
theorem p1_Fh_19_5_2 : mm_fld p1_h 19 5 2 = some (vI 0) := by decide +kernel
set_option maxRecDepth 100000 in
theorem p1_Fh_19_5_5 : mm_fld p1_h 19 5 5 = some (vI 0) := by decide +kernel
set_option maxRecDepth 100000 in
theorem p1_Fh_19_5_9 : mm_fld p1_h 19 5 9 = some (vI 0) := by decide +kernel
set_option maxRecDepth 100000 in
theorem p1_G23 {Z : Nat → List Int32} {k : Int32} : mm_G Z 11 23 [vR 0, vI k] p1_h (fun r h => r = aX (vI (if k = Int32.ofInt 0 ∨ k = Int32.ofInt 1 ∨ k = Int32.ofInt 2 ∨ k = Int32.ofInt 3 ∨ k = Int32.ofInt 4 ∨ k = Int32.ofInt 5 then 0 else -1)) ∧ h = p1_h) := by
  have h40 : mm_P Z 11 23 40 [some (vR 0), some (vI k)] [] p1_h (fun r h => r = aX (vI 0) ∧ h = p1_h) := mm_at_blk (L := [some (vR 0), some (vI k)]) p1_b23_40 (by omega) (Or.inl rfl) (mm_st rfl rfl (mm_gf p1_Fh_0_0_5 (mm_gf p1_Fh_19_5_6 ⟨rfl, rfl⟩)))
  have h48 : mm_P Z 11 23 48 [some (vR 0), some (vI k)] [] p1_h (fun r h => r = aX (vI 0) ∧ h = p1_h) := mm_at_blk (L := [some (vR 0), some (vI k)]) p1_b23_48 (by omega) (Or.inl rfl) (mm_st rfl rfl (mm_gf p1_Fh_0_0_5 (mm_gf p1_Fh_19_5_7 ⟨rfl, rfl⟩)))
  have h56 : mm_P Z 11 23 56 [some (vR 0), some (vI k)] [] p1_h (fun r h => r = aX (vI 0) ∧ h = p1_h) := mm_at_blk (L := [some (vR 0), some (vI k)]) p1_b23_56 (by omega) (Or.inl rfl) (mm_st rfl rfl (mm_gf p1_Fh_0_0_5 (mm_gf p1_Fh_19_5_8 ⟨rfl, rfl⟩)))
  have h64 : mm_P Z 11 23 64 [some (vR 0), some (vI k)] [] p1_h (fun r h => r = aX (vI 0) ∧ h = p1_h) := mm_at_blk (L := [some (vR 0), some (vI k)]) p1_b23_64 (by omega) (Or.inl rfl) (mm_st rfl rfl (mm_gf p1_Fh_0_0_5 (mm_gf p1_Fh_19_5_2 ⟨rfl, rfl⟩)))
  have h72 : mm_P Z 11 23 72 [some (vR 0), some (vI k)] [] p1_h (fun r h => r = aX (vI 0) ∧ h = p1_h) := mm_at_blk (L := [some (vR 0), some (vI k)]) p1_b23_72 (by omega) (Or.inl rfl) (mm_st rfl rfl (mm_gf p1_Fh_0_0_5 (mm_gf p1_Fh_19_5_5 ⟨rfl, rfl⟩)))
  have h80 : mm_P Z 11 23 80 [some (vR 0), some (vI k)] [] p1_h (fun r h => r = aX (vI 0) ∧ h = p1_h) := mm_at_blk (L := [some (vR 0), some (vI k)]) p1_b23_80 (by omega) (Or.inl rfl) (mm_st rfl rfl (mm_gf p1_Fh_0_0_5 (mm_gf p1_Fh_19_5_9 ⟨rfl, rfl⟩)))
  have h88 : mm_P Z 11 23 88 [some (vR 0), some (vI k)] [] p1_h (fun r h => r = aX (vI (-1)) ∧ h = p1_h) := mm_at_blk (L := [some (vR 0), some (vI k)]) p1_b23_88 (by omega) (Or.inl rfl) (mm_st rfl rfl ⟨rfl, rfl⟩)
  refine mm_G_of (by rw [p1_ml23]; exact Nat.le_refl _) ?_
  rw [p1_ml23]
  refine mm_at_blk (L := [some (vR 0), some (vI k)]) p1_b23_0 (by omega) (Or.inl rfl) ?_
  refine mm_st rfl rfl ?_
  refine ⟨fun z => by rw [if_pos (by simp [z])]; exact h40, fun z0 => ⟨fun z => by rw [if_pos (by simp [z])]; exact h48, fun z1 => ⟨fun z => by rw [if_pos (by simp [z])]; exact h56, fun z2 => ⟨fun z => by rw [if_pos (by simp [z])]; exact h64, fun z3 => ⟨fun z => by rw [if_pos (by simp [z])]; exact h72, fun z4 => ⟨fun z => by rw [if_pos (by simp [z])]; exact h80, fun z5 => ?_⟩⟩⟩⟩⟩⟩
  rw [if_neg (by simp only [not_or]; exact ⟨z0, z1, z2, z3, z4, z5⟩)]
  exact h88
set_option maxRecDepth 100000 in
theorem p1_b164_0 : mm_blk 164 0 = some [.aload 0, .sipush (0), .multianewarray 10 0, .iload 1, .lookupswitch 74 #[(0, 44), (1, 49), (2, 54), (3, 59), (4, 64), (5, 69)]] := by decide +kernel
set_option maxRecDepth 100000 in
theorem p1_b164_44 : mm_blk 164 44 = some [.aload 0, .invokeinterface 10 48, .ireturn] := by decide +kernel
set_option maxRecDepth 100000 in
theorem p1_b164_49 : mm_blk 164 49 = some [.aload 0, .invokeinterface 10 49, .ireturn] := by decide +kernel
set_option maxRecDepth 100000 in
theorem p1_b164_54 : mm_blk 164 54 = some [.aload 0, .invokeinterface 10 50, .ireturn] := by decide +kernel
set_option maxRecDepth 100000 in
theorem p1_b164_59 : mm_blk 164 59 = some [.aload 0, .invokeinterface 10 51, .ireturn] := by decide +kernel
set_option maxRecDepth 100000 in
theorem p1_b164_64 : mm_blk 164 64 = some [.aload 0, .invokeinterface 10 52, .ireturn] := by decide +kernel
set_option maxRecDepth 100000 in
theorem p1_b164_69 : mm_blk 164 69 = some [.aload 0, .invokeinterface 10 53, .ireturn] := by decide +kernel
set_option maxRecDepth 100000 in
theorem p1_b164_74 : mm_blk 164 74 = some [.sipush (-1), .ireturn] := by decide +kernel
set_option maxRecDepth 100000 in
theorem p1_ml164 : mm_ml 164 = 2 := by decide +kernel
set_option maxRecDepth 100000 in
theorem p1_Fm_25_10_48 : mm_fld p1_m 25 10 48 = some (vI 0) := by decide +kernel
set_option maxRecDepth 100000 in
theorem p1_Fm_25_10_49 : mm_fld p1_m 25 10 49 = some (vI 0) := by decide +kernel
set_option maxRecDepth 100000 in
theorem p1_Fm_25_10_50 : mm_fld p1_m 25 10 50 = some (vI 0) := by decide +kernel
set_option maxRecDepth 100000 in
theorem p1_Fm_25_10_52 : mm_fld p1_m 25 10 52 = some (vI 0) := by decide +kernel
set_option maxRecDepth 100000 in
theorem p1_Fm_25_10_53 : mm_fld p1_m 25 10 53 = some (vI 0) := by decide +kernel
set_option maxRecDepth 100000 in
theorem p1_G164 {Z : Nat → List Int32} {k : Int32} : mm_G Z 11 164 [vR 25, vI k] p1_h (fun r _ => r = aX (vI (if k = Int32.ofInt 0 ∨ k = Int32.ofInt 1 ∨ k = Int32.ofInt 2 ∨ k = Int32.ofInt 3 ∨ k = Int32.ofInt 4 ∨ k = Int32.ofInt 5 then 0 else -1))) := by
  have h44 : mm_P Z 11 164 44 [some (vR 25), some (vI k)] [] p1_m (fun r _ => r = aX (vI 0)) := mm_at_blk (L := [some (vR 25), some (vI k)]) p1_b164_44 (by omega) (Or.inl rfl) (mm_st rfl rfl (mm_gf p1_Fm_25_10_48 rfl))
  have h49 : mm_P Z 11 164 49 [some (vR 25), some (vI k)] [] p1_m (fun r _ => r = aX (vI 0)) := mm_at_blk (L := [some (vR 25), some (vI k)]) p1_b164_49 (by omega) (Or.inl rfl) (mm_st rfl rfl (mm_gf p1_Fm_25_10_49 rfl))
  have h54 : mm_P Z 11 164 54 [some (vR 25), some (vI k)] [] p1_m (fun r _ => r = aX (vI 0)) := mm_at_blk (L := [some (vR 25), some (vI k)]) p1_b164_54 (by omega) (Or.inl rfl) (mm_st rfl rfl (mm_gf p1_Fm_25_10_50 rfl))
  have h59 : mm_P Z 11 164 59 [some (vR 25), some (vI k)] [] p1_m (fun r _ => r = aX (vI 0)) := mm_at_blk (L := [some (vR 25), some (vI k)]) p1_b164_59 (by omega) (Or.inl rfl) (mm_st rfl rfl (mm_gf p1_Fm_25_10_51 rfl))
  have h64 : mm_P Z 11 164 64 [some (vR 25), some (vI k)] [] p1_m (fun r _ => r = aX (vI 0)) := mm_at_blk (L := [some (vR 25), some (vI k)]) p1_b164_64 (by omega) (Or.inl rfl) (mm_st rfl rfl (mm_gf p1_Fm_25_10_52 rfl))
  have h69 : mm_P Z 11 164 69 [some (vR 25), some (vI k)] [] p1_m (fun r _ => r = aX (vI 0)) := mm_at_blk (L := [some (vR 25), some (vI k)]) p1_b164_69 (by omega) (Or.inl rfl) (mm_st rfl rfl (mm_gf p1_Fm_25_10_53 rfl))
  have h74 : mm_P Z 11 164 74 [some (vR 25), some (vI k)] [] p1_m (fun r _ => r = aX (vI (-1))) := mm_at_blk (L := [some (vR 25), some (vI k)]) p1_b164_74 (by omega) (Or.inl rfl) (mm_st rfl rfl rfl)
  refine mm_G_of (by rw [p1_ml164]; exact Nat.le_refl _) ?_
  rw [p1_ml164]
  refine mm_at_blk (L := [some (vR 25), some (vI k)]) p1_b164_0 (by omega) (Or.inl rfl) ?_
  refine mm_st rfl rfl ?_
  refine mm_st rfl rfl ?_
  refine mm_pfi p1_K0 p1_put_eq ?_
  refine mm_st rfl rfl ?_
  refine ⟨fun z => by rw [if_pos (by simp [z])]; exact h44, fun z0 => ⟨fun z => by rw [if_pos (by simp [z])]; exact h49, fun z1 => ⟨fun z => by rw [if_pos (by simp [z])]; exact h54, fun z2 => ⟨fun z => by rw [if_pos (by simp [z])]; exact h59, fun z3 => ⟨fun z => by rw [if_pos (by simp [z])]; exact h64, fun z4 => ⟨fun z => by rw [if_pos (by simp [z])]; exact h69, fun z5 => ?_⟩⟩⟩⟩⟩⟩
  rw [if_neg (by simp only [not_or]; exact ⟨z0, z1, z2, z3, z4, z5⟩)]
  exact h74
set_option maxRecDepth 100000 in
theorem p1_b16_0 : mm_blk 16 0 = some [.iload 1, .ifCond .lt 21, .iload 1, .aload 0, .invokeinterface 1 1, .if_icmp .ge 21, .aload 0, .invokeinterface 1 0, .iload 1, .iaload, .goto 22] := by decide +kernel
set_option maxRecDepth 100000 in
theorem p1_b16_21 : mm_blk 16 21 = some [.sipush (-1), .goto_w 22] := by decide +kernel
set_option maxRecDepth 100000 in
theorem p1_b16_22 : mm_blk 16 22 = some [.ireturn] := by decide +kernel
set_option maxRecDepth 100000 in
theorem p1_ml16 : mm_ml 16 = 2 := by decide +kernel
set_option maxRecDepth 100000 in
theorem p1_Fh_20_1_1 : mm_fld p1_h 20 1 1 = some (vI 0) := by decide +kernel
set_option maxRecDepth 100000 in
theorem p1_G16 {Z : Nat → List Int32} {k : Int32} : mm_G Z 9 16 [vR 20, vI k] p1_h (fun r h => r = aX (vI (-1)) ∧ h = p1_h) := by
  have h22 : mm_P Z 9 16 22 [some (vR 20), some (vI k)] [vI (-1)] p1_h (fun r h => r = aX (vI (-1)) ∧ h = p1_h) := mm_at_blk (L := [some (vR 20), some (vI k)]) p1_b16_22 (by omega) (Or.inl rfl) (⟨rfl, rfl⟩)
  have h21 : mm_P Z 9 16 21 [some (vR 20), some (vI k)] [] p1_h (fun r h => r = aX (vI (-1)) ∧ h = p1_h) := mm_at_blk (L := [some (vR 20), some (vI k)]) p1_b16_21 (by omega) (Or.inl rfl) (mm_st rfl rfl h22)
  refine mm_G_of (by rw [p1_ml16]; exact Nat.le_refl _) ?_
  rw [p1_ml16]
  refine mm_at_blk (L := [some (vR 20), some (vI k)]) p1_b16_0 (by omega) (Or.inl rfl) ?_
  refine mm_st rfl rfl ?_
  refine ⟨fun _ => h21, fun z => ?_⟩
  refine mm_st rfl rfl ?_
  refine mm_st rfl rfl ?_
  refine mm_gf p1_Fh_20_1_1 ?_
  refine ⟨fun _ => h21, fun z2 => ?_⟩
  exact absurd (Int32.not_lt.mp z) z2
set_option maxRecDepth 100000 in
theorem p1_b15_0 : mm_blk 15 0 = some [.iload 1, .sipush (-1), .if_icmp .ne 12, .aload 0, .invokeinterface 1 1, .goto 17] := by decide +kernel
set_option maxRecDepth 100000 in
theorem p1_b15_12 : mm_blk 15 12 = some [.aload 0, .iload 1, .invokevirtual 16, .goto_w 17] := by decide +kernel
set_option maxRecDepth 100000 in
theorem p1_b15_17 : mm_blk 15 17 = some [.ireturn] := by decide +kernel
set_option maxRecDepth 100000 in
theorem p1_ml15 : mm_ml 15 = 2 := by decide +kernel
set_option maxRecDepth 100000 in
theorem p1_G15 {Z : Nat → List Int32} {k : Int32} : mm_G Z 10 15 [vR 20, vI k] p1_h (fun r h => r = aX (vI (if k = Int32.ofInt (-1) then 0 else -1)) ∧ h = p1_h) := by
  have h17 : ∀ y : Int32, mm_P Z 10 15 17 [some (vR 20), some (vI k)] [vI y] p1_h (fun r h => r = aX (vI y) ∧ h = p1_h) := fun y => mm_at_blk (L := [some (vR 20), some (vI k)]) p1_b15_17 (by omega) (Or.inl rfl) ⟨rfl, rfl⟩
  have h12 : mm_P Z 10 15 12 [some (vR 20), some (vI k)] [] p1_h (fun r h => r = aX (vI (-1)) ∧ h = p1_h) := mm_at_blk (L := [some (vR 20), some (vI k)]) p1_b15_12 (by omega) (Or.inl rfl) (mm_st rfl rfl (mm_st rfl rfl (mm_iv (d := 9) (vs := [vR 20, vI k]) (r := []) p1_na16 (by simp) (by rw [p1_ci16]; exact p1_R20) p1_G16 (fun r h hr => by obtain ⟨rfl, rfl⟩ := hr; exact h17 (-1)))))
  refine mm_G_of (by rw [p1_ml15]; exact Nat.le_refl _) ?_
  rw [p1_ml15]
  refine mm_at_blk (L := [some (vR 20), some (vI k)]) p1_b15_0 (by omega) (Or.inl rfl) ?_
  refine mm_st rfl rfl ?_
  refine mm_st rfl rfl ?_
  refine ⟨fun z => ?_, fun z => ?_⟩
  · rw [if_neg z]
    exact h12
  · have z : k = Int32.ofInt (-1) := Classical.not_not.mp z
    rw [if_pos z]
    exact mm_st rfl rfl (mm_gf p1_Fh_20_1_1 (h17 0))
set_option maxRecDepth 100000 in
theorem p1_b20_0 : mm_blk 20 0 = some [.aload 0, .invokeinterface 0 5, .invokeinterface 5 0, .iload 1, .invokevirtual 15, .ireturn] := by decide +kernel
set_option maxRecDepth 100000 in
theorem p1_ml20 : mm_ml 20 = 2 := by decide +kernel
set_option maxRecDepth 100000 in
theorem p1_Fh_19_5_0 : mm_fld p1_h 19 5 0 = some (vR 20) := by decide +kernel
set_option maxRecDepth 100000 in
theorem p1_G20 {Z : Nat → List Int32} {k : Int32} : mm_G Z 11 20 [vR 0, vI k] p1_h (fun r h => r = aX (vI (if k = Int32.ofInt (-1) then 0 else -1)) ∧ h = p1_h) := by
  refine mm_G_of (by rw [p1_ml20]; exact Nat.le_refl _) ?_
  rw [p1_ml20]
  refine mm_at_blk (L := [some (vR 0), some (vI k)]) p1_b20_0 (by omega) (Or.inl rfl) ?_
  refine mm_st rfl rfl ?_
  refine mm_gf p1_Fh_0_0_5 ?_
  refine mm_gf p1_Fh_19_5_0 ?_
  refine mm_st rfl rfl ?_
  refine mm_iv (d := 10) (vs := [vR 20, vI k]) (r := []) p1_na15 (by simp) (by rw [p1_ci15]; exact p1_R20) p1_G15 (fun r h hr => ?_)
  obtain ⟨rfl, rfl⟩ := hr
  exact ⟨rfl, rfl⟩
set_option maxRecDepth 100000 in
theorem p1_b157_0 : mm_blk 157 0 = some [.aload 0, .sipush (0), .multianewarray 10 0, .iload 1, .sipush (-1), .if_icmp .ne 17, .aload 0, .invokeinterface 10 46, .goto 43] := by decide +kernel
set_option maxRecDepth 100000 in
theorem p1_b157_17 : mm_blk 157 17 = some [.iload 1, .ifCond .lt 42, .iload 1, .aload 0, .invokeinterface 10 46, .if_icmp .ge 42, .aload 0, .invokeinterface 10 47, .iload 1, .baload, .sipush (255), .iand, .goto 43] := by decide +kernel
set_option maxRecDepth 100000 in
theorem p1_b157_42 : mm_blk 157 42 = some [.sipush (-1), .goto_w 43] := by decide +kernel
set_option maxRecDepth 100000 in
theorem p1_b157_43 : mm_blk 157 43 = some [.ireturn] := by decide +kernel
set_option maxRecDepth 100000 in
theorem p1_ml157 : mm_ml 157 = 2 := by decide +kernel
set_option maxRecDepth 100000 in
theorem p1_Fm_25_10_46 : mm_fld p1_m 25 10 46 = some (vI 0) := by decide +kernel
set_option maxRecDepth 100000 in
theorem p1_G157 {Z : Nat → List Int32} {k : Int32} : mm_G Z 11 157 [vR 25, vI k] p1_h (fun r _ => r = aX (vI (if k = Int32.ofInt (-1) then 0 else -1))) := by
  have h43 : ∀ y : Int32, mm_P Z 11 157 43 [some (vR 25), some (vI k)] [vI y] p1_m (fun r _ => r = aX (vI y)) := fun y => mm_at_blk (L := [some (vR 25), some (vI k)]) p1_b157_43 (by omega) (Or.inl rfl) rfl
  have h42 : mm_P Z 11 157 42 [some (vR 25), some (vI k)] [] p1_m (fun r _ => r = aX (vI (-1))) := mm_at_blk (L := [some (vR 25), some (vI k)]) p1_b157_42 (by omega) (Or.inl rfl) (mm_st rfl rfl (h43 (-1)))
  have h17 : mm_P Z 11 157 17 [some (vR 25), some (vI k)] [] p1_m (fun r _ => r = aX (vI (-1))) := mm_at_blk (L := [some (vR 25), some (vI k)]) p1_b157_17 (by omega) (Or.inl rfl) (mm_st rfl rfl ⟨fun _ => h42, fun z => mm_st rfl rfl (mm_st rfl rfl (mm_gf p1_Fm_25_10_46 ⟨fun _ => h42, fun z2 => absurd (Int32.not_lt.mp z) z2⟩))⟩)
  refine mm_G_of (by rw [p1_ml157]; exact Nat.le_refl _) ?_
  rw [p1_ml157]
  refine mm_at_blk (L := [some (vR 25), some (vI k)]) p1_b157_0 (by omega) (Or.inl rfl) ?_
  refine mm_st rfl rfl ?_
  refine mm_st rfl rfl ?_
  refine mm_pfi p1_K0 p1_put_eq ?_
  refine mm_st rfl rfl ?_
  refine mm_st rfl rfl ?_
  refine ⟨fun z => ?_, fun z => ?_⟩
  · rw [if_neg z]
    exact h17
  · have z : k = Int32.ofInt (-1) := Classical.not_not.mp z
    rw [if_pos z]
    exact mm_st rfl rfl (mm_gf p1_Fm_25_10_46 (h43 0))
set_option maxRecDepth 100000 in
theorem p1_b167_442 : mm_blk 167 442 = some [.aload 1, .aload 0, .iload 4, .sipush (1), .iadd, .iaload, .invokevirtual 24, .aload 2, .aload 0, .iload 4, .sipush (1), .iadd, .iaload, .invokevirtual 165, .if_icmp .eq 480, .sipush (0), .freturn] := by decide +kernel
theorem p1_c442 {Z : Nat → List Int32} (hn : (Z 1).length = 3) : mm_P Z 12 167 442 (p1_L 0 none none) [] p1_h p1_Post := p1_case1 p1_b167_442 hn p1_na24 p1_na165 p1_ci24 p1_ci165 (fun k => ⟨_, p1_G24, p1_G165⟩)
set_option maxRecDepth 100000 in
theorem p1_b167_417 : mm_blk 167 417 = some [.aload 1, .aload 0, .iload 4, .sipush (1), .iadd, .iaload, .invokevirtual 23, .aload 2, .aload 0, .iload 4, .sipush (1), .iadd, .iaload, .invokevirtual 164, .if_icmp .eq 480, .sipush (0), .freturn] := by decide +kernel
theorem p1_c417 {Z : Nat → List Int32} (hn : (Z 1).length = 3) : mm_P Z 12 167 417 (p1_L 0 none none) [] p1_h p1_Post := p1_case1 p1_b167_417 hn p1_na23 p1_na164 p1_ci23 p1_ci164 (fun k => ⟨_, p1_G23, p1_G164⟩)
set_option maxRecDepth 100000 in
theorem p1_b167_323 : mm_blk 167 323 = some [.aload 1, .aload 0, .iload 4, .sipush (1), .iadd, .iaload, .invokevirtual 20, .aload 2, .aload 0, .iload 4, .sipush (1), .iadd, .iaload, .invokevirtual 157, .if_icmp .eq 480, .sipush (0), .freturn] := by decide +kernel
theorem p1_c323 {Z : Nat → List Int32} (hn : (Z 1).length = 3) : mm_P Z 12 167 323 (p1_L 0 none none) [] p1_h p1_Post := p1_case1 p1_b167_323 hn p1_na20 p1_na157 p1_ci20 p1_ci157 (fun k => ⟨_, p1_G20, p1_G157⟩)
