/-! THE LAW'S LOOP, at most one call -/
theorem mm_F_le {Z : Nat → List Int32} {mi d d' : Nat} {p : Program} {e : Env} {R : Room} {s : State} {m : MethodId} {meth : Method} {c : Code} {D : va_G} {cT : Nat → ClassId} {zt : Nat → Nat} {A : Nat → Prop} (h : d ≤ d') (hF : mm_F Z mi d' p e R s m meth c D cT zt A) : mm_F Z mi d p e R s m meth c D cT zt A := by
  obtain ⟨hx, htr, hb, hr, hml, hown, hnm, hlk, hex, hd1, hd2, hA, hTb⟩ := hF
  exact ⟨hx, htr, hb, hr, hml, hown, hnm, hlk, hex, by omega, by omega, hA, hTb⟩
theorem mm_G_le {Z : Nat → List Int32} {mi d d' : Nat} {vs : List mm_V} {h : mm_H} {Post : mm_A → mm_H → Prop} (hd : d ≤ d') (hG : mm_G Z d mi vs h Post) : mm_G Z d' mi vs h Post := fun p l e R s m below meth c D cT zt A rho hF => hG p l e R s m below meth c D cT zt A rho (mm_F_le hd hF)
theorem mm_at_blk {Z : Nat → List Int32} {d mi pc : Nat} {is : List Instr} {L : mm_L} {st : List mm_V} {h : mm_H} {Post : mm_A → mm_H → Prop} (hb : mm_blk mi pc = some is) (hd : 6 ≤ d) (hh : mm_hd mi = [] ∨ is.all mm_nc = true) (hw : mm_wp mm_K Z mm_na 6 mm_ci (fun t L st h => mm_P Z d mi t L st h Post) (mm_C Z d) Post is L st h) : mm_P Z d mi pc L st h Post := by
  obtain ⟨hs, hchk⟩ := mm_blk_chk hb
  exact mm_sound hd is pc hs L st h hh hchk hw
/-- steps that go on -/
def mm_s1ok (i : Instr) : Bool := match i with
  | .goto _ => false
  | .goto_w _ => false
  | .if_icmp _ _ => false
  | .ifCond _ _ => false
  | .ifnull _ => false
  | .ifnonnull _ => false
  | .if_acmp _ _ => false
  | .lookupswitch _ _ => false
  | .invokestatic _ => false
  | .putstatic _ => false
  | .invokevirtual _ => false
  | .invokespecial _ => false
  | .checkcast _ => false
  | .return_ => false
  | .ireturn => false
  | .freturn => false
  | .lreturn => false
  | .areturn => false
  | .fadd => false
  | .fsub => false
  | _ => true
theorem mm_st {K : Nat → List FieldType} {Z : Nat → List Int32} {nA : Nat → Nat} {nE : Nat} {ci : Nat → Nat} {J : Nat → mm_L → List mm_V → mm_H → Prop} {C : Nat → List mm_V → mm_H → (mm_A → mm_H → Prop) → Prop} {Q : mm_A → mm_H → Prop} {i : Instr} {is : List Instr} {L L' : mm_L} {st st' : List mm_V} {h h' : mm_H} (hi : mm_s1ok i = true) (hs : mm_s1 K Z i L st h = some (L', st', h')) (hk : mm_wp K Z nA nE ci J C Q is L' st' h') : mm_wp K Z nA nE ci J C Q (i :: is) L st h := by
  unfold mm_wp
  split <;> first
    | (simp [mm_s1ok] at hi; done)
    | (rw [hs]; exact hk)
abbrev p1_Post : mm_A → mm_H → Prop := fun r _ => r = aX (vI 1)
set_option maxRecDepth 100000 in
theorem p1_b486 : mm_blk 167 486 = some [.sipush (1), .freturn] := by decide +kernel
set_option maxRecDepth 100000 in
theorem p1_b480 : mm_blk 167 480 = some [.iinc 4 (3), .goto 23] := by decide +kernel
set_option maxRecDepth 100000 in
theorem p1_b23 : mm_blk 167 23 = some [.iload 4, .aload 0, .arraylength, .sipush (3), .isub, .if_icmp .gt 486, .aload 0, .iload 4, .iaload, .sipush (15), .iand, .lookupswitch 480 #[(0, 104), (1, 161), (2, 205), (3, 218), (4, 255), (5, 266), (6, 310), (7, 323), (8, 348), (9, 361), (10, 417), (11, 442), (12, 467)]] := by decide +kernel
theorem p1_486 {Z : Nat → List Int32} {L : mm_L} {h : mm_H} : mm_P Z 12 167 486 L [] h p1_Post := by
  refine mm_at_blk p1_b486 (by omega) (Or.inl rfl) ?_
  simp [mm_wp, mm_s1]
theorem p1_23e {Z : Nat → List Int32} {n : Nat} {a b : Option mm_V} {h : mm_H} (hn : (Z 1).length = n) (h3 : n ≤ 3) : mm_P Z 12 167 23 (p1_L 3 a b) [] h p1_Post := by
  refine mm_at_blk p1_b23 (by omega) (Or.inl rfl) ?_
  obtain rfl | rfl | rfl | rfl : n = 0 ∨ n = 1 ∨ n = 2 ∨ n = 3 := by omega
  all_goals
    simp only [mm_wp, mm_s1, p1_L, List.getElem?_cons_succ, List.getElem?_cons_zero, hn]
    exact ⟨fun _ => p1_486, fun z => absurd (mm_cmpb_iff.mp (by decide)) z⟩
theorem p1_480 {Z : Nat → List Int32} {n : Nat} {a b : Option mm_V} {h : mm_H} (hn : (Z 1).length = n) (h3 : n ≤ 3) : mm_P Z 12 167 480 (p1_L 0 a b) [] h p1_Post := by
  refine mm_at_blk p1_b480 (by omega) (Or.inl rfl) ?_
  have : mm_s1 mm_K Z (.iinc 4 (3)) (p1_L 0 a b) [] h = some (p1_L 3 a b, [], h) := rfl
  simp only [mm_wp, this]
  exact p1_23e hn h3
theorem p1_line {Z : Nat → List Int32} {n pc : Nat} (hn : (Z 1).length = n) (h3 : n ≤ 3) (hg : p1_good pc = true) : mm_P Z 12 167 pc (p1_L 0 none none) [] p1_h p1_Post := by
  simp only [p1_good, Bool.and_eq_true, decide_eq_true_eq] at hg
  obtain ⟨h', hh⟩ := mm_quad hg.1.1 hg.1.2 hg.2
  unfold p1_case at hh
  obtain ⟨is, hb, hl⟩ := Option.bind_eq_some_iff.mp hh
  exact mm_at_blk hb (by omega) (Or.inl rfl) (mm_lin_wp (D := 12) rfl (p1_480 hn h3) is _ _ _ hl)
/-- the law, if its cases with numbers come to 480 -/
theorem p1_law {Z : Nat → List Int32} {n : Nat} (hn : (Z 1).length = n) (h3 : n ≤ 3) (H : n = 3 → ∀ pc ∈ [104, 161, 218, 266, 323, 361, 417, 442], mm_P Z 12 167 pc (p1_L 0 none none) [] p1_h p1_Post) : mm_G Z 1300 167 [vZ 1] ([], (600002, 7302232)) p1_Post := by
  refine mm_G_le (d := 12) (by omega) (mm_G_of (by decide) ?_)
  have hr := p1_made
  unfold p1_r at hr
  obtain ⟨is, hb, hl⟩ := Option.bind_eq_some_iff.mp hr
  refine mm_at_blk hb (by omega) (Or.inl rfl) (mm_lin_wp (D := 12) rfl ?_ is _ _ _ hl)
  refine mm_at_blk p1_b23 (by omega) (Or.inl rfl) ?_
  obtain rfl | rfl | rfl | rfl : n = 0 ∨ n = 1 ∨ n = 2 ∨ n = 3 := by omega
  iterate 3
    simp only [mm_wp, mm_s1, p1_L, List.getElem?_cons_succ, List.getElem?_cons_zero, hn]
    exact ⟨fun _ => p1_486, fun z => absurd (mm_cmpb_iff.mp (by decide)) z⟩
  have H := H rfl
  have hz : ∃ x, mm_zald Z 1 0 = some x := by
    unfold mm_zald
    rw [hn]
    refine ⟨(Z 1)[0]'(by omega), ?_⟩
    have : mm_ix 0 3 = some 0 := by decide
    rw [this]
    exact List.getElem?_eq_getElem _
  obtain ⟨x, hx⟩ := hz
  have e0 := p1_480 (a := none) (b := none) (h := p1_h) hn h3
  have s3 : mm_s1 mm_K Z .arraylength (p1_L 0 none none) [vZ 1, vI 0] p1_h = some (p1_L 0 none none, [vI (Int32.ofNat 3), vI 0], p1_h) := by simp [mm_s1, hn]
  have s9 : mm_s1 mm_K Z .iaload (p1_L 0 none none) [vI 0, vZ 1] p1_h = some (p1_L 0 none none, [vI x], p1_h) := by simp [mm_s1, hx]
  refine mm_st rfl rfl ?_
  refine mm_st rfl rfl ?_
  refine mm_st rfl s3 ?_
  refine mm_st rfl rfl ?_
  refine mm_st rfl rfl ?_
  refine ⟨fun z => absurd (mm_cmpb_iff.mpr z) (by decide), fun _ => ?_⟩
  refine mm_st rfl rfl ?_
  refine mm_st rfl rfl ?_
  refine mm_st rfl s9 ?_
  refine mm_st rfl rfl ?_
  refine mm_st rfl rfl ?_
  simp only [mm_wp, mm_sw]
  exact ⟨fun _ => H 104 (by decide), fun _ => ⟨fun _ => H 161 (by decide), fun _ => ⟨fun _ => p1_line hn h3 p1_position, fun _ => ⟨fun _ => H 218 (by decide), fun _ => ⟨fun _ => p1_line hn h3 p1_clear, fun _ => ⟨fun _ => H 266 (by decide), fun _ => ⟨fun _ => p1_line hn h3 p1_failure, fun _ => ⟨fun _ => H 323 (by decide), fun _ => ⟨fun _ => p1_line hn h3 p1_restart, fun _ => ⟨fun _ => H 361 (by decide), fun _ => ⟨fun _ => H 417 (by decide), fun _ => ⟨fun _ => H 442 (by decide), fun _ => ⟨fun _ => p1_line hn h3 p1_top, fun _ => e0⟩⟩⟩⟩⟩⟩⟩⟩⟩⟩⟩⟩⟩
