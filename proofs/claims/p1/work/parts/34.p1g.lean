set_option maxRecDepth 100000 in
theorem p1_b97_0 : mm_blk 97 0 = some [.iload 1, .ifCond .lt 11, .iload 1, .sipush (500), .if_icmp .le 21, .goto_w 11] := by decide +kernel
set_option maxRecDepth 100000 in
theorem p1_b97_11 : mm_blk 97 11 = some [.checkcast 0] := by decide +kernel
set_option maxRecDepth 100000 in
theorem p1_b97_21 : mm_blk 97 21 = some [.aload 0, .invokeinterface 0 5, .iload 1, .invokevirtual 98, .ireturn] := by decide +kernel
set_option maxRecDepth 100000 in
theorem p1_b98_0 : mm_blk 98 0 = some [.sipush (0), .istore 2, .goto_w 2] := by decide +kernel
set_option maxRecDepth 100000 in
theorem p1_b98_2 : mm_blk 98 2 = some [.iload 2, .iload 1, .if_icmp .ge 25, .aload 0, .invokeinterface 5 6, .sipush (1), .if_icmp .ne 25, .aload 0, .invokevirtual 99, .iinc 2 (1), .goto 2] := by decide +kernel
set_option maxRecDepth 100000 in
theorem p1_b98_25 : mm_blk 98 25 = some [.iload 2, .ireturn] := by decide +kernel
set_option maxRecDepth 100000 in
theorem p1_b159_0 : mm_blk 159 0 = some [.aload 0, .iload 1, .ifCond .lt 12, .iload 1, .sipush (500), .if_icmp .le 16, .goto_w 12] := by decide +kernel
set_option maxRecDepth 100000 in
theorem p1_b159_12 : mm_blk 159 12 = some [.sipush (1), .goto 17] := by decide +kernel
set_option maxRecDepth 100000 in
theorem p1_b159_16 : mm_blk 159 16 = some [.sipush (0), .goto_w 17] := by decide +kernel
set_option maxRecDepth 100000 in
theorem p1_b159_17 : mm_blk 159 17 = some [.multianewarray 10 0, .sipush (0), .istore 2, .goto_w 22] := by decide +kernel
set_option maxRecDepth 100000 in
theorem p1_b159_22 : mm_blk 159 22 = some [.aload 0, .invokeinterface 10 0, .ifCond .ne 52, .iload 2, .iload 1, .if_icmp .ge 52, .aload 0, .invokeinterface 10 48, .sipush (1), .if_icmp .ne 52, .aload 0, .invokevirtual 160, .iinc 2 (1), .goto 22] := by decide +kernel
set_option maxRecDepth 100000 in
theorem p1_b159_52 : mm_blk 159 52 = some [.iload 2, .ireturn] := by decide +kernel
set_option maxRecDepth 100000 in
theorem p1_b109_0 : mm_blk 109 0 = some [.aload 0, .invokeinterface 10 0, .ireturn] := by decide +kernel
set_option maxRecDepth 100000 in
theorem p1_b167_361 : mm_blk 167 361 = some [.aload 1, .aload 0, .iload 4, .sipush (1), .iadd, .iaload, .aload 3, .putstatic 170, .istore 5, .aload 2, .aload 0, .iload 4, .sipush (1), .iadd, .iaload, .invokevirtual 159, .istore 6, .aload 2, .invokevirtual 109, .iload 5, .if_icmp .eq 397, .sipush (0), .freturn] := by decide +kernel
set_option maxRecDepth 100000 in
theorem p1_b167_397 : mm_blk 167 397 = some [.iload 5, .ifCond .ne 414, .aload 3, .sipush (0), .laload, .iload 6, .i2l, .lcmp, .ifCond .eq 414, .sipush (0), .freturn] := by decide +kernel
set_option maxRecDepth 100000 in
theorem p1_b167_414 : mm_blk 167 414 = some [.goto 480] := by decide +kernel
set_option maxRecDepth 100000 in
theorem p1_b170_0 : mm_blk 170 0 = some [.aload 2, .sipush (0), .aload 0, .iload 1, .goto_w 4] := by decide +kernel
set_option maxRecDepth 100000 in
theorem p1_b170_7 : mm_blk 170 7 = some [.i2l, .lastore, .goto 15] := by decide +kernel
set_option maxRecDepth 100000 in
theorem p1_b170_15 : mm_blk 170 15 = some [.sipush (0), .ireturn] := by decide +kernel
set_option maxRecDepth 100000 in
theorem p1_ml97 : mm_ml 97 = 2 := by decide +kernel
set_option maxRecDepth 100000 in
theorem p1_na97 : mm_na 97 = 2 := by decide +kernel
set_option maxRecDepth 100000 in
theorem p1_ci97 : mm_ci 97 = 0 := by decide +kernel
set_option maxRecDepth 100000 in
theorem p1_ml98 : mm_ml 98 = 3 := by decide +kernel
set_option maxRecDepth 100000 in
theorem p1_na98 : mm_na 98 = 2 := by decide +kernel
set_option maxRecDepth 100000 in
theorem p1_ci98 : mm_ci 98 = 5 := by decide +kernel
set_option maxRecDepth 100000 in
theorem p1_ml159 : mm_ml 159 = 3 := by decide +kernel
set_option maxRecDepth 100000 in
theorem p1_na159 : mm_na 159 = 2 := by decide +kernel
set_option maxRecDepth 100000 in
theorem p1_ci159 : mm_ci 159 = 10 := by decide +kernel
set_option maxRecDepth 100000 in
theorem p1_ml109 : mm_ml 109 = 1 := by decide +kernel
set_option maxRecDepth 100000 in
theorem p1_na109 : mm_na 109 = 1 := by decide +kernel
set_option maxRecDepth 100000 in
theorem p1_ci109 : mm_ci 109 = 10 := by decide +kernel
set_option maxRecDepth 100000 in
theorem p1_ml170 : mm_ml 170 = 4 := by decide +kernel
set_option maxRecDepth 100000 in
theorem p1_na170 : mm_na 170 = 3 := by decide +kernel
def p1_x : mm_H := (p1_h.1, (p1_h.2.1 - 1, p1_h.2.2 - 6))
def p1_o : mm_H := (mm_last p1_h 58 0 (0 : Int32).toInt64).getD p1_h
def p1_xb : mm_H := (mm_put p1_x 25 10 0 (vI 1)).getD p1_h
def p1_og : mm_H := (mm_put p1_o 25 10 0 (vI 0)).getD p1_h
theorem mm_s1_last {K : Nat → List FieldType} {Z : Nat → List Int32} {L : mm_L} {x : Int64} {i : Int32} {a : Nat} {r : List mm_V} {h h' : mm_H} (hl : mm_last h a i x = some h') : mm_s1 K Z .lastore L (vJ x :: vI i :: vR a :: r) h = some (L, r, h') := by simp [mm_s1, hl]
theorem mm_getD {x : Option mm_H} {d : mm_H} (h : x.isSome = true) : x = some (x.getD d) := by
  cases x with
  | none => cases h
  | some y => rfl
set_option maxRecDepth 100000 in
theorem p1_o_eq : mm_last p1_h 58 0 (0 : Int32).toInt64 = some p1_o := mm_getD (by decide +kernel)
set_option maxRecDepth 100000 in
theorem p1_xb_eq : mm_put p1_x 25 10 0 (vI 1) = some p1_xb := mm_getD (by decide +kernel)
set_option maxRecDepth 100000 in
theorem p1_og_eq : mm_put p1_o 25 10 0 (vI 0) = some p1_og := mm_getD (by decide +kernel)
set_option maxRecDepth 100000 in
theorem p1_room : 1 ≤ p1_h.2.1 ∧ 6 ≤ p1_h.2.2 := by decide +kernel
set_option maxRecDepth 100000 in
theorem p1_thr_xb : mm_fld p1_xb 25 10 0 = some (vI 1) := by decide +kernel
set_option maxRecDepth 100000 in
theorem p1_thr_og : mm_fld p1_og 25 10 0 = some (vI 0) := by decide +kernel
set_option maxRecDepth 100000 in
theorem p1_st_og : mm_fld p1_og 25 10 48 = some (vI 0) := by decide +kernel
set_option maxRecDepth 100000 in
theorem p1_out : mm_lald p1_og 58 0 = some (0 : Int32).toInt64 := by decide +kernel
set_option maxRecDepth 100000 in
theorem p1_R25_x : mm_rcvb p1_x [vR 25] 10 = true := by decide +kernel
set_option maxRecDepth 100000 in
theorem p1_R25_o : mm_rcvb p1_o [vR 25] 10 = true := by decide +kernel
set_option maxRecDepth 100000 in
theorem p1_R25_xb : mm_rcvb p1_xb [vR 25] 10 = true := by decide +kernel
set_option maxRecDepth 100000 in
theorem p1_R25_og : mm_rcvb p1_og [vR 25] 10 = true := by decide +kernel
set_option maxRecDepth 100000 in
theorem p1_G98 {Z : Nat → List Int32} {n : Int32} : mm_G Z 9 98 [vR 19, vI n] p1_h (fun r h => r = aX (vI 0) ∧ h = p1_h) := by
  have h25 : mm_P Z 9 98 25 [some (vR 19), some (vI n), some (vI 0)] [] p1_h (fun r h => r = aX (vI 0) ∧ h = p1_h) := mm_at_blk p1_b98_25 (by omega) (Or.inl rfl) (mm_st rfl rfl ⟨rfl, rfl⟩)
  have h2 : mm_P Z 9 98 2 [some (vR 19), some (vI n), some (vI 0)] [] p1_h (fun r h => r = aX (vI 0) ∧ h = p1_h) := by
    refine mm_at_blk p1_b98_2 (by omega) (Or.inl rfl) ?_
    refine mm_st rfl rfl ?_
    refine mm_st rfl rfl ?_
    refine ⟨fun _ => h25, fun _ => ?_⟩
    refine mm_st rfl rfl ?_
    refine mm_gf p1_Fh_19_5_6 ?_
    refine mm_st rfl rfl ?_
    exact ⟨fun _ => h25, fun z => absurd (mm_cmpb_iff.mp (by decide)) z⟩
  refine mm_G_of (by rw [p1_ml98]; exact Nat.le_succ _) ?_
  rw [p1_ml98]
  refine mm_at_blk (L := [some (vR 19), some (vI n), none]) p1_b98_0 (by omega) (Or.inl rfl) ?_
  refine mm_st rfl rfl ?_
  refine mm_st (L' := [some (vR 19), some (vI n), some (vI 0)]) (st' := []) (h' := p1_h) rfl rfl ?_
  exact h2
def p1_bad (n : Int32) : Prop := n < 0 ∨ ¬ n ≤ (Int32.ofInt 500)
set_option maxRecDepth 100000 in
theorem p1_G97 {Z : Nat → List Int32} {n : Int32} : mm_G Z 10 97 [vR 0, vI n] p1_h (fun r h => (r = aT 0 ∧ h = p1_x ∧ p1_bad n) ∨ (r = aX (vI 0) ∧ h = p1_h ∧ ¬ p1_bad n)) := by
  have h11 : p1_bad n → mm_P Z 10 97 11 [some (vR 0), some (vI n)] [] p1_h (fun r h => (r = aT 0 ∧ h = p1_x ∧ p1_bad n) ∨ (r = aX (vI 0) ∧ h = p1_h ∧ ¬ p1_bad n)) := fun hb => mm_at_blk p1_b97_11 (by omega) (Or.inl rfl) ⟨by decide, p1_room.1, p1_room.2, Or.inl ⟨rfl, rfl, hb⟩⟩
  have h21 : ¬ p1_bad n → mm_P Z 10 97 21 [some (vR 0), some (vI n)] [] p1_h (fun r h => (r = aT 0 ∧ h = p1_x ∧ p1_bad n) ∨ (r = aX (vI 0) ∧ h = p1_h ∧ ¬ p1_bad n)) := by
    intro hb
    refine mm_at_blk p1_b97_21 (by omega) (Or.inl rfl) ?_
    refine mm_st rfl rfl ?_
    refine mm_gf p1_Fh_0_0_5 ?_
    refine mm_st rfl rfl ?_
    refine mm_iv (d := 9) (vs := [vR 19, vI n]) (r := []) p1_na98 (by simp) (by rw [p1_ci98]; exact p1_R19) p1_G98 (fun r h hr => ?_)
    obtain ⟨rfl, rfl⟩ := hr
    exact Or.inr ⟨rfl, rfl, hb⟩
  refine mm_G_of (by rw [p1_ml97]; exact Nat.le_refl _) ?_
  rw [p1_ml97]
  refine mm_at_blk (L := [some (vR 0), some (vI n)]) p1_b97_0 (by omega) (Or.inl rfl) ?_
  refine mm_st rfl rfl ?_
  refine ⟨fun z => h11 (Or.inl z), fun z => ?_⟩
  refine mm_st rfl rfl ?_
  refine mm_st rfl rfl ?_
  exact ⟨fun z2 => h21 (fun y => y.elim z (fun w => w z2)), fun z2 => h11 (Or.inr z2)⟩
set_option maxRecDepth 100000 in
theorem p1_runA : ∃ fs, p1_h.1[0]? = some (.inl (mm_ci 97, fs)) := by
  have h : mm_rcvb p1_h [vR 0] (mm_ci 97) = true := by decide +kernel
  exact mm_rcvb_of h
set_option maxRecDepth 100000 in
theorem p1_G170 {Z : Nat → List Int32} {n : Int32} : mm_G Z 11 170 [vR 0, vI n, vR 58] p1_h (fun r h => (r = aX (vI 1) ∧ h = p1_x ∧ p1_bad n) ∨ (r = aX (vI 0) ∧ h = p1_o ∧ ¬ p1_bad n)) := by
  obtain ⟨fs, ha⟩ := p1_runA
  have h15 : ¬ p1_bad n → mm_P Z 11 170 15 [some (vR 0), some (vI n), some (vR 58), none] [] p1_o (fun r h => (r = aX (vI 1) ∧ h = p1_x ∧ p1_bad n) ∨ (r = aX (vI 0) ∧ h = p1_o ∧ ¬ p1_bad n)) := fun hb => mm_at_blk p1_b170_15 (by omega) (Or.inr (by decide)) (mm_st rfl rfl (Or.inr ⟨rfl, rfl, hb⟩))
  have h7 : ¬ p1_bad n → mm_P Z 11 170 7 [some (vR 0), some (vI n), some (vR 58), none] [vI 0, vI 0, vR 58] p1_h (fun r h => (r = aX (vI 1) ∧ h = p1_x ∧ p1_bad n) ∨ (r = aX (vI 0) ∧ h = p1_o ∧ ¬ p1_bad n)) := by
    intro hb
    refine mm_at_blk p1_b170_7 (by omega) (Or.inr (by decide)) ?_
    refine mm_st rfl rfl ?_
    refine mm_st (L' := [some (vR 0), some (vI n), some (vR 58), none]) (st' := []) (h' := p1_o) rfl (mm_s1_last p1_o_eq) ?_
    exact h15 hb
  refine mm_G_of (by rw [p1_ml170]; exact Nat.le_succ _) ?_
  rw [p1_ml170]
  refine mm_at_blk (L := [some (vR 0), some (vI n), some (vR 58), none]) p1_b170_0 (by omega) (Or.inr (by decide)) ?_
  refine mm_st rfl rfl ?_
  refine mm_st rfl rfl ?_
  refine mm_st rfl rfl ?_
  refine mm_st rfl rfl ?_
  exact mm_catchP (d := 10) (mi := 170) (k := 97) (pc := 4) (idx := 22) (i0 := 903) (i1 := 904) (i2 := 905) (i4 := 906) (i5 := 391) (i6 := 489) (a := 0) (as := [vI n]) (rest := [vI 0, vR 58]) (q := ("LispForge", mm_T0, 8)) (hp := 12) (ct := 13) (ex := 0) (sl := 3) (n := 1) (x0 := 1) (s0 := 0) (e0 := 9) (by decide +kernel) (by decide +kernel) (by decide +kernel) (by decide +kernel) (by decide +kernel) (by decide +kernel) (by decide +kernel) (by decide +kernel) (by show mm_pars 97 = some 1; decide +kernel) rfl ha (by decide) p1_G97 (fun v h' z => by
      rcases z with z | z
      · cases z.1
      · obtain ⟨z1, rfl, z3⟩ := z
        cases z1
        exact h7 z3) rfl (by decide) (by decide) (by decide) (by decide +kernel) (by decide +kernel) (fun e' h' z => by
      rcases z with z | z
      · exact ⟨Sum.inr.inj z.1, Or.inl ⟨rfl, z.2⟩⟩
      · cases z.1) (by decide +kernel) (by decide +kernel) (by decide) (by decide +kernel) (by decide +kernel) (by decide +kernel)
set_option maxRecDepth 100000 in
theorem p1_G159b {Z : Nat → List Int32} {n : Int32} (hb : p1_bad n) : mm_G Z 11 159 [vR 25, vI n] p1_x (fun r h => r = aX (vI 0) ∧ h = p1_xb) := by
  have h52 : mm_P Z 11 159 52 [some (vR 25), some (vI n), some (vI 0)] [] p1_xb (fun r h => r = aX (vI 0) ∧ h = p1_xb) := mm_at_blk p1_b159_52 (by omega) (Or.inl rfl) (mm_st rfl rfl ⟨rfl, rfl⟩)
  have h22 : mm_P Z 11 159 22 [some (vR 25), some (vI n), some (vI 0)] [] p1_xb (fun r h => r = aX (vI 0) ∧ h = p1_xb) := by
    refine mm_at_blk p1_b159_22 (by omega) (Or.inl rfl) ?_
    refine mm_st rfl rfl ?_
    refine mm_gf p1_thr_xb ?_
    exact ⟨fun _ => h52, fun z => absurd (mm_cmpb_iff.mp (by decide)) z⟩
  have h17 : mm_P Z 11 159 17 [some (vR 25), some (vI n), none] [vI 1, vR 25] p1_x (fun r h => r = aX (vI 0) ∧ h = p1_xb) := by
    refine mm_at_blk p1_b159_17 (by omega) (Or.inl rfl) ?_
    refine mm_pfi p1_K0 p1_xb_eq ?_
    refine mm_st rfl rfl ?_
    refine mm_st (L' := [some (vR 25), some (vI n), some (vI 0)]) (st' := []) (h' := p1_xb) rfl rfl ?_
    exact h22
  have h12 : mm_P Z 11 159 12 [some (vR 25), some (vI n), none] [vR 25] p1_x (fun r h => r = aX (vI 0) ∧ h = p1_xb) := mm_at_blk p1_b159_12 (by omega) (Or.inl rfl) (mm_st rfl rfl h17)
  refine mm_G_of (by rw [p1_ml159]; exact Nat.le_succ _) ?_
  rw [p1_ml159]
  refine mm_at_blk (L := [some (vR 25), some (vI n), none]) p1_b159_0 (by omega) (Or.inl rfl) ?_
  refine mm_st rfl rfl ?_
  refine mm_st rfl rfl ?_
  refine ⟨fun _ => h12, fun z => ?_⟩
  refine mm_st rfl rfl ?_
  refine mm_st rfl rfl ?_
  exact ⟨fun z2 => absurd hb (fun y => y.elim z (fun w => w z2)), fun _ => h12⟩
set_option maxRecDepth 100000 in
theorem p1_G109b {Z : Nat → List Int32} : mm_G Z 11 109 [vR 25] p1_xb (fun r h => r = aX (vI 1) ∧ h = p1_xb) := by
  refine mm_G_of (by rw [p1_ml109]; exact Nat.le_refl _) ?_
  rw [p1_ml109]
  refine mm_at_blk (L := [some (vR 25)]) p1_b109_0 (by omega) (Or.inl rfl) ?_
  refine mm_st rfl rfl ?_
  refine mm_gf p1_thr_xb ?_
  exact ⟨rfl, rfl⟩
set_option maxRecDepth 100000 in
theorem p1_G159g {Z : Nat → List Int32} {n : Int32} (hb : ¬ p1_bad n) : mm_G Z 11 159 [vR 25, vI n] p1_o (fun r h => r = aX (vI 0) ∧ h = p1_og) := by
  have h52 : mm_P Z 11 159 52 [some (vR 25), some (vI n), some (vI 0)] [] p1_og (fun r h => r = aX (vI 0) ∧ h = p1_og) := mm_at_blk p1_b159_52 (by omega) (Or.inl rfl) (mm_st rfl rfl ⟨rfl, rfl⟩)
  have h22 : mm_P Z 11 159 22 [some (vR 25), some (vI n), some (vI 0)] [] p1_og (fun r h => r = aX (vI 0) ∧ h = p1_og) := by
    refine mm_at_blk p1_b159_22 (by omega) (Or.inl rfl) ?_
    refine mm_st rfl rfl ?_
    refine mm_gf p1_thr_og ?_
    refine ⟨fun z => absurd (mm_cmpb_iff.mpr z) (by decide), fun _ => ?_⟩
    refine mm_st rfl rfl ?_
    refine mm_st rfl rfl ?_
    refine ⟨fun _ => h52, fun _ => ?_⟩
    refine mm_st rfl rfl ?_
    refine mm_gf p1_st_og ?_
    refine mm_st rfl rfl ?_
    exact ⟨fun _ => h52, fun z => absurd (mm_cmpb_iff.mp (by decide)) z⟩
  have h17 : mm_P Z 11 159 17 [some (vR 25), some (vI n), none] [vI 0, vR 25] p1_o (fun r h => r = aX (vI 0) ∧ h = p1_og) := by
    refine mm_at_blk p1_b159_17 (by omega) (Or.inl rfl) ?_
    refine mm_pfi p1_K0 p1_og_eq ?_
    refine mm_st rfl rfl ?_
    refine mm_st (L' := [some (vR 25), some (vI n), some (vI 0)]) (st' := []) (h' := p1_og) rfl rfl ?_
    exact h22
  have h12 : mm_P Z 11 159 16 [some (vR 25), some (vI n), none] [vR 25] p1_o (fun r h => r = aX (vI 0) ∧ h = p1_og) := mm_at_blk p1_b159_16 (by omega) (Or.inl rfl) (mm_st rfl rfl h17)
  refine mm_G_of (by rw [p1_ml159]; exact Nat.le_succ _) ?_
  rw [p1_ml159]
  refine mm_at_blk (L := [some (vR 25), some (vI n), none]) p1_b159_0 (by omega) (Or.inl rfl) ?_
  refine mm_st rfl rfl ?_
  refine mm_st rfl rfl ?_
  refine ⟨fun z => absurd (Or.inl z) hb, fun z => ?_⟩
  refine mm_st rfl rfl ?_
  refine mm_st rfl rfl ?_
  exact ⟨fun _ => h12, fun z2 => absurd (Or.inr z2) hb⟩
set_option maxRecDepth 100000 in
theorem p1_G109g {Z : Nat → List Int32} : mm_G Z 11 109 [vR 25] p1_og (fun r h => r = aX (vI 0) ∧ h = p1_og) := by
  refine mm_G_of (by rw [p1_ml109]; exact Nat.le_refl _) ?_
  rw [p1_ml109]
  refine mm_at_blk (L := [some (vR 25)]) p1_b109_0 (by omega) (Or.inl rfl) ?_
  refine mm_st rfl rfl ?_
  refine mm_gf p1_thr_og ?_
  exact ⟨rfl, rfl⟩
set_option maxRecDepth 100000 in
theorem p1_c361 {Z : Nat → List Int32} (hn : (Z 1).length = 3) : mm_P Z 12 167 361 (p1_L 0 none none) [] p1_h p1_Post := by
  obtain ⟨n, -, hz, -⟩ := p1_z hn
  refine mm_at_blk p1_b167_361 (by omega) (Or.inl rfl) ?_
  refine mm_st rfl rfl ?_
  refine mm_st rfl rfl ?_
  refine mm_st rfl rfl ?_
  refine mm_st rfl rfl ?_
  refine mm_st rfl rfl ?_
  refine mm_zi hz ?_
  refine mm_st rfl rfl ?_
  show mm_na 170 ≤ _ ∧ _ ∧ _
  rw [p1_na170]
  refine ⟨Nat.le_of_ble_eq_true rfl, Nat.le_of_ble_eq_true rfl, ?_⟩
  refine mm_G_mono (p1_G170 (Z := Z) (n := n)) (fun r h hr => ?_)
  rcases hr with ⟨rfl, rfl, hb⟩ | ⟨rfl, rfl, hb⟩
  · show mm_wp _ _ _ _ _ _ _ _ _ _ _ _
    have h414 : mm_P Z 12 167 414 (p1_L 0 (some (vI 1)) (some (vI 0))) [] p1_xb p1_Post := mm_at_blk p1_b167_414 (by omega) (Or.inl rfl) (p1_480 hn (Nat.le_refl _))
    have h397 : mm_P Z 12 167 397 (p1_L 0 (some (vI 1)) (some (vI 0))) [] p1_xb p1_Post := by
      refine mm_at_blk p1_b167_397 (by omega) (Or.inl rfl) ?_
      refine mm_st rfl rfl ?_
      exact ⟨fun _ => h414, fun z => absurd (mm_cmpb_iff.mp (by decide)) z⟩
    refine mm_st (L' := p1_L 0 (some (vI 1)) none) (st' := []) (h' := p1_x) rfl rfl ?_
    refine mm_st rfl rfl ?_
    refine mm_st rfl rfl ?_
    refine mm_st rfl rfl ?_
    refine mm_st rfl rfl ?_
    refine mm_st rfl rfl ?_
    refine mm_zi hz ?_
    refine mm_iv (d := 11) (vs := [vR 25, vI n]) (r := []) p1_na159 (by simp) (by rw [p1_ci159]; exact p1_R25_x) (p1_G159b hb) (fun r h hr => ?_)
    obtain ⟨rfl, rfl⟩ := hr
    show mm_wp _ _ _ _ _ _ _ _ _ _ _ _
    refine mm_st (L' := p1_L 0 (some (vI 1)) (some (vI 0))) (st' := []) (h' := p1_xb) rfl rfl ?_
    refine mm_st rfl rfl ?_
    refine mm_iv (d := 11) (vs := [vR 25]) (r := []) p1_na109 (by simp) (by rw [p1_ci109]; exact p1_R25_xb) p1_G109b (fun r h hr => ?_)
    obtain ⟨rfl, rfl⟩ := hr
    show mm_wp _ _ _ _ _ _ _ _ _ _ _ _
    refine mm_st rfl rfl ?_
    exact ⟨fun _ => h397, fun z => absurd rfl z⟩
  · show mm_wp _ _ _ _ _ _ _ _ _ _ _ _
    have h414 : mm_P Z 12 167 414 (p1_L 0 (some (vI 0)) (some (vI 0))) [] p1_og p1_Post := mm_at_blk p1_b167_414 (by omega) (Or.inl rfl) (p1_480 hn (Nat.le_refl _))
    have h397 : mm_P Z 12 167 397 (p1_L 0 (some (vI 0)) (some (vI 0))) [] p1_og p1_Post := by
      refine mm_at_blk p1_b167_397 (by omega) (Or.inl rfl) ?_
      refine mm_st rfl rfl ?_
      refine ⟨fun z => absurd (mm_cmpb_iff.mpr z) (by decide), fun _ => ?_⟩
      refine mm_st rfl rfl ?_
      refine mm_st rfl rfl ?_
      refine mm_st (L' := p1_L 0 (some (vI 0)) (some (vI 0))) (st' := [vJ (0 : Int32).toInt64]) (h' := p1_og) rfl (by simp only [mm_s1]; rw [show mm_lald p1_og 58 (Int32.ofInt 0) = some (0 : Int32).toInt64 from p1_out]; rfl) ?_
      refine mm_st rfl rfl ?_
      refine mm_st rfl rfl ?_
      refine mm_st rfl rfl ?_
      exact ⟨fun _ => h414, fun z => absurd (mm_cmpb_iff.mp (by decide)) z⟩
    refine mm_st (L' := p1_L 0 (some (vI 0)) none) (st' := []) (h' := p1_o) rfl rfl ?_
    refine mm_st rfl rfl ?_
    refine mm_st rfl rfl ?_
    refine mm_st rfl rfl ?_
    refine mm_st rfl rfl ?_
    refine mm_st rfl rfl ?_
    refine mm_zi hz ?_
    refine mm_iv (d := 11) (vs := [vR 25, vI n]) (r := []) p1_na159 (by simp) (by rw [p1_ci159]; exact p1_R25_o) (p1_G159g hb) (fun r h hr => ?_)
    obtain ⟨rfl, rfl⟩ := hr
    show mm_wp _ _ _ _ _ _ _ _ _ _ _ _
    refine mm_st (L' := p1_L 0 (some (vI 0)) (some (vI 0))) (st' := []) (h' := p1_og) rfl rfl ?_
    refine mm_st rfl rfl ?_
    refine mm_iv (d := 11) (vs := [vR 25]) (r := []) p1_na109 (by simp) (by rw [p1_ci109]; exact p1_R25_og) p1_G109g (fun r h hr => ?_)
    obtain ⟨rfl, rfl⟩ := hr
    show mm_wp _ _ _ _ _ _ _ _ _ _ _ _
    refine mm_st rfl rfl ?_
    exact ⟨fun _ => h397, fun z => absurd rfl z⟩

