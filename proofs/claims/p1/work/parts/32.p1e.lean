def p1_compR : Option (mm_A × mm_H) := mm_run 600 4 27 [vR 0] p1_h
def p1_compH : mm_H := (p1_compR.map fun r => r.2).getD p1_h
set_option maxRecDepth 100000 in
theorem p1_compT : p1_compR.map (fun r => mm_eqA r.1 (aT 0)) = some true := by decide +kernel
theorem p1_compG {Z : Nat → List Int32} : mm_G Z 10 27 [vR 0] p1_h (fun r h => r = aT 0 ∧ h = p1_compH) := by
  have h := p1_compT
  rcases hq : p1_compR with _ | ⟨r, hh⟩
  · rw [hq] at h; cases h
  · rw [hq] at h
    simp only [Option.map_some, Option.some.injEq, mm_eqA, decide_eq_true_eq] at h
    refine mm_run_G (n := 600) (d := 4) (r := r) (h' := hh) hq ⟨h, ?_⟩
    unfold p1_compH
    rw [hq]; rfl
set_option maxRecDepth 100000 in
theorem p1_b168_0 : mm_blk 168 0 = some [.aload 1, .sipush (0), .aload 0, .goto_w 3] := by decide +kernel
set_option maxRecDepth 100000 in
theorem p1_ml168 : mm_ml 168 = 3 := by decide +kernel
set_option maxRecDepth 100000 in
theorem p1_compA : ∃ fs, p1_h.1[0]? = some (.inl (mm_ci 27, fs)) := by
  have h : mm_rcvb p1_h [vR 0] (mm_ci 27) = true := by decide +kernel
  exact mm_rcvb_of h
set_option maxRecDepth 100000 in
theorem p1_G168 {Z : Nat → List Int32} : mm_G Z 11 168 [vR 0, vR 58] p1_h (fun r h => r = aX (vI 1) ∧ h = p1_compH) := by
  obtain ⟨fs, ha⟩ := p1_compA
  refine mm_G_of (by rw [p1_ml168]; decide) ?_
  rw [p1_ml168]
  refine mm_at_blk (L := [some (vR 0), some (vR 58), none]) p1_b168_0 (by omega) (Or.inr (by decide)) ?_
  refine mm_st rfl rfl ?_
  refine mm_st rfl rfl ?_
  refine mm_st rfl rfl ?_
  exact mm_catchP (d := 10) (mi := 168) (k := 27) (pc := 3) (idx := 7) (i0 := 394) (i1 := 395) (i2 := 396) (i4 := 397) (i5 := 391) (i6 := 489) (a := 0) (as := []) (rest := [vI 0, vR 58]) (q := ("LispForge", mm_T0, 8)) (hp := 11) (ct := 13) (ex := 0) (sl := 2) (n := 1) (x0 := 1) (s0 := 0) (e0 := 8) (by decide +kernel) (by decide +kernel) (by decide +kernel) (by decide +kernel) (by decide +kernel) (by decide +kernel) (by decide +kernel) (by decide +kernel) (by decide +kernel) rfl ha (by decide) p1_compG (fun v h' z => by cases z.1) rfl (by decide) (by decide) (by decide) (by decide +kernel) (by decide +kernel) (fun e' h' z => ⟨Sum.inr.inj z.1, rfl, z.2⟩) (by decide +kernel) (by decide +kernel) (by decide) (by decide +kernel) (by decide +kernel) (by decide +kernel)
set_option maxRecDepth 100000 in
theorem p1_b167_161 : mm_blk 167 161 = some [.aload 1, .aload 3, .putstatic 168, .istore 5, .aload 2, .invokevirtual 111, .istore 6, .aload 2, .invokevirtual 109, .iload 5, .if_icmp .eq 185, .sipush (0), .freturn] := by decide +kernel
def p1_compTail : List Instr := [.istore 5, .aload 2, .invokevirtual 111, .istore 6, .aload 2, .invokevirtual 109, .iload 5, .if_icmp .eq 185, .sipush (0), .freturn]
def p1_compE : Option (Nat × (mm_L × (List mm_V × mm_H))) := mm_lin 600 5 167 p1_compTail (p1_L 0 none none) [vI 1] p1_compH
set_option maxRecDepth 100000 in
theorem p1_compE1 : p1_compE.map (fun r => r.1) = some 185 := by decide +kernel
set_option maxRecDepth 100000 in
theorem p1_compE2 : p1_compE.map (fun r => mm_eqL r.2.1 (p1_L 0 (some (vI 1)) (some (vI 0)))) = some true := by decide +kernel
set_option maxRecDepth 100000 in
theorem p1_compE3 : p1_compE.map (fun r => mm_eqS r.2.2.1 []) = some true := by decide +kernel
set_option maxRecDepth 100000 in
theorem p1_b167_185 : mm_blk 167 185 = some [.iload 5, .ifCond .ne 202, .aload 3, .sipush (0), .laload, .iload 6, .i2l, .lcmp, .ifCond .eq 202, .sipush (0), .freturn] := by decide +kernel
set_option maxRecDepth 100000 in
theorem p1_b167_202 : mm_blk 167 202 = some [.goto 480] := by decide +kernel
set_option maxRecDepth 100000 in
theorem p1_na168 : mm_na 168 = 2 := by decide +kernel
set_option maxRecDepth 100000 in
theorem p1_c161 {Z : Nat → List Int32} (hn : (Z 1).length = 3) : mm_P Z 12 167 161 (p1_L 0 none none) [] p1_h p1_Post := by
  obtain ⟨hx, hE⟩ := mm_quad p1_compE1 p1_compE2 p1_compE3
  have h3 : mm_P Z 12 167 202 (p1_L 0 (some (vI 1)) (some (vI 0))) [] hx p1_Post := mm_at_blk p1_b167_202 (by omega) (Or.inl rfl) (p1_480 hn (Nat.le_refl _))
  have h2 : mm_P Z 12 167 185 (p1_L 0 (some (vI 1)) (some (vI 0))) [] hx p1_Post := by
    refine mm_at_blk p1_b167_185 (by omega) (Or.inl rfl) ?_
    refine mm_st rfl rfl ?_
    exact ⟨fun _ => h3, fun z => absurd (mm_cmpb_iff.mp (by decide)) z⟩
  refine mm_at_blk p1_b167_161 (by omega) (Or.inl rfl) ?_
  refine mm_st rfl rfl ?_
  refine mm_st rfl rfl ?_
  show mm_na 168 ≤ _ ∧ _ ∧ _
  rw [p1_na168]
  refine ⟨by decide, by decide, ?_⟩
  refine mm_G_mono (p1_G168 (Z := Z)) (fun r h hr => ?_)
  obtain ⟨rfl, rfl⟩ := hr
  exact mm_lin_wp (D := 12) rfl h2 p1_compTail _ _ _ hE
def p1_linkR : Option (mm_A × mm_H) := mm_run 600 4 87 [vR 0] p1_h
def p1_linkH : mm_H := (p1_linkR.map fun r => r.2).getD p1_h
set_option maxRecDepth 100000 in
theorem p1_linkT : p1_linkR.map (fun r => mm_eqA r.1 (aT 2)) = some true := by decide +kernel
theorem p1_linkG {Z : Nat → List Int32} : mm_G Z 10 87 [vR 0] p1_h (fun r h => r = aT 2 ∧ h = p1_linkH) := by
  have h := p1_linkT
  rcases hq : p1_linkR with _ | ⟨r, hh⟩
  · rw [hq] at h; cases h
  · rw [hq] at h
    simp only [Option.map_some, Option.some.injEq, mm_eqA, decide_eq_true_eq] at h
    refine mm_run_G (n := 600) (d := 4) (r := r) (h' := hh) hq ⟨h, ?_⟩
    unfold p1_linkH
    rw [hq]; rfl
set_option maxRecDepth 100000 in
theorem p1_b169_0 : mm_blk 169 0 = some [.aload 1, .sipush (0), .aload 0, .goto_w 3] := by decide +kernel
set_option maxRecDepth 100000 in
theorem p1_ml169 : mm_ml 169 = 3 := by decide +kernel
set_option maxRecDepth 100000 in
theorem p1_linkA : ∃ fs, p1_h.1[0]? = some (.inl (mm_ci 87, fs)) := by
  have h : mm_rcvb p1_h [vR 0] (mm_ci 87) = true := by decide +kernel
  exact mm_rcvb_of h
set_option maxRecDepth 100000 in
theorem p1_G169 {Z : Nat → List Int32} : mm_G Z 11 169 [vR 0, vR 58] p1_h (fun r h => r = aX (vI 1) ∧ h = p1_linkH) := by
  obtain ⟨fs, ha⟩ := p1_linkA
  refine mm_G_of (by rw [p1_ml169]; decide) ?_
  rw [p1_ml169]
  refine mm_at_blk (L := [some (vR 0), some (vR 58), none]) p1_b169_0 (by omega) (Or.inr (by decide)) ?_
  refine mm_st rfl rfl ?_
  refine mm_st rfl rfl ?_
  refine mm_st rfl rfl ?_
  exact mm_catchP (d := 10) (mi := 169) (k := 87) (pc := 3) (idx := 19) (i0 := 853) (i1 := 854) (i2 := 855) (i4 := 856) (i5 := 393) (i6 := 831) (a := 0) (as := []) (rest := [vI 0, vR 58]) (q := ("LispForge", mm_T0, 8)) (hp := 11) (ct := 17) (ex := 2) (sl := 2) (n := 1) (x0 := 1) (s0 := 0) (e0 := 8) (by decide +kernel) (by decide +kernel) (by decide +kernel) (by decide +kernel) (by decide +kernel) (by decide +kernel) (by decide +kernel) (by decide +kernel) (by decide +kernel) rfl ha (by decide) p1_linkG (fun v h' z => by cases z.1) rfl (by decide) (by decide) (by decide) (by decide +kernel) (by decide +kernel) (fun e' h' z => ⟨Sum.inr.inj z.1, rfl, z.2⟩) (by decide +kernel) (by decide +kernel) (by decide) (by decide +kernel) (by decide +kernel) (by decide +kernel)
set_option maxRecDepth 100000 in
theorem p1_b167_266 : mm_blk 167 266 = some [.aload 1, .aload 3, .putstatic 169, .istore 5, .aload 2, .invokevirtual 148, .istore 6, .aload 2, .invokevirtual 109, .iload 5, .if_icmp .eq 290, .sipush (0), .freturn] := by decide +kernel
def p1_linkTail : List Instr := [.istore 5, .aload 2, .invokevirtual 148, .istore 6, .aload 2, .invokevirtual 109, .iload 5, .if_icmp .eq 290, .sipush (0), .freturn]
def p1_linkE : Option (Nat × (mm_L × (List mm_V × mm_H))) := mm_lin 600 5 167 p1_linkTail (p1_L 0 none none) [vI 1] p1_linkH
set_option maxRecDepth 100000 in
theorem p1_linkE1 : p1_linkE.map (fun r => r.1) = some 290 := by decide +kernel
set_option maxRecDepth 100000 in
theorem p1_linkE2 : p1_linkE.map (fun r => mm_eqL r.2.1 (p1_L 0 (some (vI 1)) (some (vI 0)))) = some true := by decide +kernel
set_option maxRecDepth 100000 in
theorem p1_linkE3 : p1_linkE.map (fun r => mm_eqS r.2.2.1 []) = some true := by decide +kernel
set_option maxRecDepth 100000 in
theorem p1_b167_290 : mm_blk 167 290 = some [.iload 5, .ifCond .ne 307, .aload 3, .sipush (0), .laload, .iload 6, .i2l, .lcmp, .ifCond .eq 307, .sipush (0), .freturn] := by decide +kernel
set_option maxRecDepth 100000 in
theorem p1_b167_307 : mm_blk 167 307 = some [.goto 480] := by decide +kernel
set_option maxRecDepth 100000 in
theorem p1_na169 : mm_na 169 = 2 := by decide +kernel
set_option maxRecDepth 100000 in
theorem p1_c266 {Z : Nat → List Int32} (hn : (Z 1).length = 3) : mm_P Z 12 167 266 (p1_L 0 none none) [] p1_h p1_Post := by
  obtain ⟨hx, hE⟩ := mm_quad p1_linkE1 p1_linkE2 p1_linkE3
  have h3 : mm_P Z 12 167 307 (p1_L 0 (some (vI 1)) (some (vI 0))) [] hx p1_Post := mm_at_blk p1_b167_307 (by omega) (Or.inl rfl) (p1_480 hn (Nat.le_refl _))
  have h2 : mm_P Z 12 167 290 (p1_L 0 (some (vI 1)) (some (vI 0))) [] hx p1_Post := by
    refine mm_at_blk p1_b167_290 (by omega) (Or.inl rfl) ?_
    refine mm_st rfl rfl ?_
    exact ⟨fun _ => h3, fun z => absurd (mm_cmpb_iff.mp (by decide)) z⟩
  refine mm_at_blk p1_b167_266 (by omega) (Or.inl rfl) ?_
  refine mm_st rfl rfl ?_
  refine mm_st rfl rfl ?_
  show mm_na 169 ≤ _ ∧ _ ∧ _
  rw [p1_na169]
  refine ⟨by decide, by decide, ?_⟩
  refine mm_G_mono (p1_G169 (Z := Z)) (fun r h hr => ?_)
  obtain ⟨rfl, rfl⟩ := hr
  exact mm_lin_wp (D := 12) rfl h2 p1_linkTail _ _ _ hE
