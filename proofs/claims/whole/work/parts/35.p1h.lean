/-! write(w) -/
set_option maxRecDepth 100000 in
theorem p1_b8_0 : mm_blk 8 0 = some [.sipush (0), .istore 3, .sipush (56), .istore 4, .goto_w 6] := by decide +kernel
set_option maxRecDepth 100000 in
theorem p1_b8_6 : mm_blk 8 6 = some [.iload 4, .ifCond .lt 49, .lload 1, .iload 4, .invokestatic 9, .istore 5, .iload 5, .ifCond .eq 43, .iload 5, .sipush (32), .if_icmp .lt 38, .iload 5, .sipush (126), .if_icmp .le 40, .goto_w 38] := by decide +kernel
set_option maxRecDepth 100000 in
theorem p1_b8_38 : mm_blk 8 38 = some [.sipush (0), .freturn] := by decide +kernel
set_option maxRecDepth 100000 in
theorem p1_b8_40 : mm_blk 8 40 = some [.iinc 3 (1), .goto_w 43] := by decide +kernel
set_option maxRecDepth 100000 in
theorem p1_b8_43 : mm_blk 8 43 = some [.iinc 4 (-8), .goto 6] := by decide +kernel
set_option maxRecDepth 100000 in
theorem p1_b8_49 : mm_blk 8 49 = some [.iload 3, .aload 0, .invokeinterface 0 0, .invokevirtual 10, .if_icmp .le 62, .sipush (0), .freturn] := by decide +kernel
set_option maxRecDepth 100000 in
theorem p1_b8_62 : mm_blk 8 62 = some [.sipush (56), .istore 4, .goto_w 66] := by decide +kernel
set_option maxRecDepth 100000 in
theorem p1_b8_66 : mm_blk 8 66 = some [.iload 4, .ifCond .lt 99, .lload 1, .iload 4, .invokestatic 9, .istore 5, .iload 5, .ifCond .eq 93, .aload 0, .invokeinterface 0 0, .iload 5, .invokevirtual 11, .goto_w 93] := by decide +kernel
set_option maxRecDepth 100000 in
theorem p1_b8_93 : mm_blk 8 93 = some [.iinc 4 (-8), .goto 66] := by decide +kernel
set_option maxRecDepth 100000 in
theorem p1_b8_99 : mm_blk 8 99 = some [.sipush (1), .freturn] := by decide +kernel
set_option maxRecDepth 100000 in
theorem p1_b9_0 : mm_blk 9 0 = some [.lload 0, .iload 2, .lushr, .l2i, .sipush (255), .iand, .ireturn] := by decide +kernel
set_option maxRecDepth 100000 in
theorem p1_b10_0 : mm_blk 10 0 = some [.aload 0, .invokeinterface 1 0, .arraylength, .aload 0, .invokeinterface 1 1, .isub, .ireturn] := by decide +kernel
set_option maxRecDepth 100000 in
theorem p1_b11_0 : mm_blk 11 0 = some [.aload 0, .invokeinterface 1 1, .aload 0, .invokeinterface 1 0, .arraylength, .if_icmp .ge 36, .aload 0, .invokeinterface 1 0, .aload 0, .invokeinterface 1 1, .iload 1, .sipush (255), .iand, .iastore, .aload 0, .dup, .invokeinterface 1 1, .sipush (1), .iadd, .multianewarray 1 1, .goto_w 36] := by decide +kernel
set_option maxRecDepth 100000 in
theorem p1_b11_36 : mm_blk 11 36 = some [.return_] := by decide +kernel
set_option maxRecDepth 100000 in
theorem p1_b110_0 : mm_blk 110 0 = some [.aload 0, .sipush (0), .multianewarray 10 0, .aload 0, .invokeinterface 10 1, .istore 3, .sipush (1), .istore 4, .sipush (7), .istore 5, .goto_w 17] := by decide +kernel
set_option maxRecDepth 100000 in
theorem p1_b110_17 : mm_blk 110 17 = some [.iload 5, .ifCond .lt 101, .lload 1, .sipush (8), .iload 5, .imul, .lushr, .l2i, .sipush (255), .iand, .istore 6, .iload 4, .ifCond .eq 70, .iload 6, .ifCond .eq 66, .iload 6, .sipush (31), .if_icmp .le 70, .iload 6, .sipush (127), .if_icmp .ge 70, .iload 3, .sipush (120), .if_icmp .ge 70, .goto_w 66] := by decide +kernel
set_option maxRecDepth 100000 in
theorem p1_b110_66 : mm_blk 110 66 = some [.sipush (1), .goto 71] := by decide +kernel
set_option maxRecDepth 100000 in
theorem p1_b110_70 : mm_blk 110 70 = some [.sipush (0), .goto_w 71] := by decide +kernel
set_option maxRecDepth 100000 in
theorem p1_b110_71 : mm_blk 110 71 = some [.istore 4, .iload 4, .ifCond .eq 95, .iload 6, .ifCond .eq 95, .aload 0, .invokeinterface 10 5, .iload 3, .iload 6, .i2c, .castore, .iinc 3 (1), .goto_w 95] := by decide +kernel
set_option maxRecDepth 100000 in
theorem p1_b110_95 : mm_blk 110 95 = some [.iinc 5 (-1), .goto 17] := by decide +kernel
set_option maxRecDepth 100000 in
theorem p1_b110_101 : mm_blk 110 101 = some [.aload 0, .iload 4, .ifCond .eq 111, .iload 3, .goto 115] := by decide +kernel
set_option maxRecDepth 100000 in
theorem p1_b110_111 : mm_blk 110 111 = some [.aload 0, .invokeinterface 10 1, .goto_w 115] := by decide +kernel
set_option maxRecDepth 100000 in
theorem p1_b110_115 : mm_blk 110 115 = some [.multianewarray 10 1, .iload 4, .freturn] := by decide +kernel
set_option maxRecDepth 100000 in
theorem p1_b167_104 : mm_blk 167 104 = some [.aload 1, .aload 0, .iload 4, .sipush (1), .iadd, .iaload, .i2l, .sipush (32), .lshl, .aload 0, .iload 4, .sipush (2), .iadd, .iaload, .i2l, .jsr (4294967295), .land, .lor, .invokevirtual 8, .aload 2, .aload 0, .iload 4, .sipush (1), .iadd, .iaload, .i2l, .sipush (32), .lshl, .aload 0, .iload 4, .sipush (2), .iadd, .iaload, .i2l, .jsr (4294967295), .land, .lor, .invokevirtual 110, .if_icmp .eq 480, .sipush (0), .freturn] := by decide +kernel
set_option maxRecDepth 100000 in
theorem p1_ml8 : mm_ml 8 = 6 := by decide +kernel
set_option maxRecDepth 100000 in
theorem p1_na8 : mm_na 8 = 2 := by decide +kernel
set_option maxRecDepth 100000 in
theorem p1_ci8 : mm_ci 8 = 0 := by decide +kernel
set_option maxRecDepth 100000 in
theorem p1_ml9 : mm_ml 9 = 3 := by decide +kernel
set_option maxRecDepth 100000 in
theorem p1_na9 : mm_na 9 = 2 := by decide +kernel
set_option maxRecDepth 100000 in
theorem p1_ml10 : mm_ml 10 = 1 := by decide +kernel
set_option maxRecDepth 100000 in
theorem p1_na10 : mm_na 10 = 1 := by decide +kernel
set_option maxRecDepth 100000 in
theorem p1_ci10 : mm_ci 10 = 1 := by decide +kernel
set_option maxRecDepth 100000 in
theorem p1_ml11 : mm_ml 11 = 2 := by decide +kernel
set_option maxRecDepth 100000 in
theorem p1_na11 : mm_na 11 = 2 := by decide +kernel
set_option maxRecDepth 100000 in
theorem p1_ci11 : mm_ci 11 = 1 := by decide +kernel
set_option maxRecDepth 100000 in
theorem p1_ml110 : mm_ml 110 = 7 := by decide +kernel
set_option maxRecDepth 100000 in
theorem p1_na110 : mm_na 110 = 2 := by decide +kernel
set_option maxRecDepth 100000 in
theorem p1_ci110 : mm_ci 110 = 10 := by decide +kernel
section MSW
variable {Z : Nat → List Int32} {d : Nat} {J : Nat → mm_L → List mm_V → mm_H → Prop} {C : Nat → List mm_V → mm_H → (mm_A → mm_H → Prop) → Prop} {Q : mm_A → mm_H → Prop} {is : List Instr} {L : mm_L} {r : List mm_V} {h h' : mm_H}
theorem mm_cs {a : Nat} {i x : Int32} (hf : mm_iast h a 2 i (vp_nar .char x) = some h') (hk : mm_wp mm_K Z mm_na 6 mm_ci J C Q is L r h') : mm_wp mm_K Z mm_na 6 mm_ci J C Q (.castore :: is) L (vI x :: vI i :: vR a :: r) h := mm_st rfl (by simp [mm_s1, hf]) hk
theorem mm_ist {a : Nat} {i x : Int32} (hf : mm_iast h a 0 i x = some h') (hk : mm_wp mm_K Z mm_na 6 mm_ci J C Q is L r h') : mm_wp mm_K Z mm_na 6 mm_ci J C Q (.iastore :: is) L (vI x :: vI i :: vR a :: r) h := mm_st rfl (by simp [mm_s1, hf]) hk
theorem mm_al {a : Nat} {n : Int32} (hf : mm_len h a = some n) (hk : mm_wp mm_K Z mm_na 6 mm_ci J C Q is L (vI n :: r) h) : mm_wp mm_K Z mm_na 6 mm_ci J C Q (.arraylength :: is) L (vR a :: r) h := mm_st rfl (by simp [mm_s1, hf]) hk
/-- a static call over the arguments vs -/
theorem mm_is {m : Nat} {vs : List mm_V} {P : mm_A → mm_H → Prop} (hn : mm_na m = vs.length) (hl : vs.length + r.length ≤ 12) (hG : mm_G Z d m vs h P) (hP : ∀ a h', P a h' → mm_Kt Q (mm_wp mm_K Z mm_na 6 mm_ci J (mm_C Z (d + 1)) Q is L) r a h') : mm_wp mm_K Z mm_na 6 mm_ci J (mm_C Z (d + 1)) Q (.invokestatic m :: is) L (vs.reverse ++ r) h := by
  have h1 : (vs.reverse ++ r).take (mm_na m) = vs.reverse := by rw [hn, ← List.length_reverse]; exact List.take_left
  have h2 : (vs.reverse ++ r).drop (mm_na m) = r := by rw [hn, ← List.length_reverse]; exact List.drop_left
  show mm_na m ≤ (vs.reverse ++ r).length ∧ (vs.reverse ++ r).length ≤ 12 ∧ mm_C Z (d + 1) m ((vs.reverse ++ r).take (mm_na m)).reverse h (mm_Kt Q (mm_wp mm_K Z mm_na 6 mm_ci J (mm_C Z (d + 1)) Q is L) ((vs.reverse ++ r).drop (mm_na m)))
  rw [h1, h2, List.reverse_reverse]
  exact ⟨by rw [hn]; simp, by simp; omega, mm_G_mono hG hP⟩
end MSW
/-- the character at a shift; which are allowed; the eight shifts -/
def p1_ch (w : Int64) (s : Int32) : Int32 := (w.toUInt64 >>> (s.toInt64.toUInt64 &&& Int64.toUInt64 63)).toInt64.toInt32 &&& Int32.ofInt 255
def p1_ok (x : Int32) : Bool := decide (x = 0) || (decide (¬ x < Int32.ofInt 32) && decide (x ≤ Int32.ofInt 126))
def p1_sh (k : Nat) : Int32 := Int32.ofInt (8 * (k : Int) - 8)
def p1_all (w : Int64) : Nat → Bool
  | 0 => true
  | k + 1 => p1_ok (p1_ch w (p1_sh (k + 1))) && p1_all w k
theorem p1_sh0 : p1_sh 0 < 0 := by decide
theorem p1_shn : ∀ k < 8, ¬ p1_sh (k + 1) < 0 := by decide
theorem p1_shd : ∀ k < 8, p1_sh (k + 1) + Int32.ofInt (-8) = p1_sh k := by decide
theorem p1_sh8 : p1_sh 8 = Int32.ofInt 56 := by decide
theorem p1_shm : ∀ k : Nat, k < 8 → Int32.ofInt 8 * Int32.ofInt (k : Int) = p1_sh (k + 1) := by decide
theorem p1_kn : ∀ k : Nat, k < 8 → ¬ Int32.ofInt ((k + 1 : Nat) - 1 : Int) < 0 := by decide
theorem p1_kk : ∀ k : Nat, k < 8 → Int32.ofInt ((k + 1 : Nat) - 1 : Int) = Int32.ofInt (k : Int) := by decide
theorem p1_kd : ∀ k : Nat, k < 8 → Int32.ofInt (k : Int) + Int32.ofInt (-1) = Int32.ofInt ((k : Int) - 1) := by decide
theorem p1_n1 : ∀ m < 8, Int32.ofNat m + Int32.ofInt 1 = Int32.ofNat (m + 1) := by decide
theorem p1_nx : ∀ m < 8, mm_ix (Int32.ofNat m) 120 = some m := by decide
theorem p1_nl : ∀ m < 9, Int32.ofNat m ≤ Int32.ofNat 120 - Int32.ofNat 0 := by decide
theorem p1_ng : ∀ m < 9, ¬ Int32.ofNat 120 ≤ Int32.ofNat m := by decide
theorem p1_ng2 : ∀ m < 9, ¬ Int32.ofInt 120 ≤ Int32.ofNat m := by decide
/-- characterAt -/
theorem p1_G9 {Z : Nat → List Int32} {w : Int64} {s : Int32} {h : mm_H} : mm_G Z 10 9 [vJ w, vI s] h (fun r h' => r = aX (vI (p1_ch w s)) ∧ h' = h) := by
  refine mm_G_of (by rw [p1_ml9]; exact Nat.le_of_ble_eq_true rfl) ?_
  rw [p1_ml9]
  refine mm_at_blk (L := [some (vJ w), none, some (vI s)]) p1_b9_0 (by omega) (Or.inl rfl) ?_
  refine mm_st rfl rfl ?_
  refine mm_st rfl rfl ?_
  refine mm_st rfl rfl ?_
  refine mm_st rfl rfl ?_
  refine mm_st rfl rfl ?_
  refine mm_st rfl rfl ?_
  exact ⟨rfl, rfl⟩
/-- the class's heap while a first text is written -/
def p1_w (fs0 : List mm_V) (rest : List mm_O) (q : Nat × Nat) (m : Nat) (xs : List Int32) : mm_H := (.inl (0, vR 1 :: fs0) :: .inl (1, [vR 2, vI (Int32.ofNat m)]) :: .inr (.inl (0, xs)) :: rest, q)
section P1W
variable {Z : Nat → List Int32} {fs0 : List mm_V} {rest : List mm_O} {q : Nat × Nat}
theorem p1_G10 {xs : List Int32} (hx : xs.length = 120) : mm_G Z 10 10 [vR 1] (p1_w fs0 rest q 0 xs) (fun r h' => r = aX (vI (Int32.ofNat 120 - Int32.ofNat 0)) ∧ h' = p1_w fs0 rest q 0 xs) := by
  refine mm_G_of (by rw [p1_ml10]; exact Nat.le_of_ble_eq_true rfl) ?_
  rw [p1_ml10]
  refine mm_at_blk (L := [some (vR 1)]) p1_b10_0 (by omega) (Or.inl rfl) ?_
  refine mm_st rfl rfl ?_
  refine mm_gf (v := vR 2) rfl ?_
  refine mm_al (n := Int32.ofNat 120) (by show some (Int32.ofNat xs.length) = _; rw [hx]) ?_
  refine mm_st rfl rfl ?_
  refine mm_gf (v := vI (Int32.ofNat 0)) rfl ?_
  refine mm_st rfl rfl ?_
  exact ⟨rfl, rfl⟩
theorem p1_wiast {m : Nat} {xs : List Int32} {x : Int32} (hm : m < 8) (hx : xs.length = 120) : mm_iast (p1_w fs0 rest q m xs) 2 0 (Int32.ofNat m) x = some (p1_w fs0 rest q m (xs.set m x)) := by
  have h1 : mm_int (p1_w fs0 rest q m xs) 2 0 = some xs := rfl
  unfold mm_iast
  rw [h1, Option.bind_some, hx, p1_nx m hm]
  rfl
theorem p1_G11 {m : Nat} {xs : List Int32} {c : Int32} (hm : m < 8) (hx : xs.length = 120) : mm_G Z 10 11 [vR 1, vI c] (p1_w fs0 rest q m xs) (fun r h' => r = aV ∧ ∃ ys : List Int32, ys.length = 120 ∧ h' = p1_w fs0 rest q (m + 1) ys) := by
  refine mm_G_of (by rw [p1_ml11]; exact Nat.le_of_ble_eq_true rfl) ?_
  rw [p1_ml11]
  refine mm_at_blk (L := [some (vR 1), some (vI c)]) p1_b11_0 (by omega) (Or.inl rfl) ?_
  refine mm_st rfl rfl ?_
  refine mm_gf (v := vI (Int32.ofNat m)) rfl ?_
  refine mm_st rfl rfl ?_
  refine mm_gf (v := vR 2) rfl ?_
  refine mm_al (n := Int32.ofNat 120) (by show some (Int32.ofNat xs.length) = _; rw [hx]) ?_
  refine ⟨fun z => absurd z (p1_ng m (by omega)), fun _ => ?_⟩
  refine mm_st rfl rfl ?_
  refine mm_gf (v := vR 2) rfl ?_
  refine mm_st rfl rfl ?_
  refine mm_gf (v := vI (Int32.ofNat m)) rfl ?_
  refine mm_st rfl rfl ?_
  refine mm_st rfl rfl ?_
  refine mm_st rfl rfl ?_
  refine mm_ist (p1_wiast hm hx) ?_
  refine mm_st rfl rfl ?_
  refine mm_st rfl rfl ?_
  refine mm_gf (v := vI (Int32.ofNat m)) rfl ?_
  refine mm_st rfl rfl ?_
  refine mm_st (st' := [vI (Int32.ofNat (m + 1)), vR 1]) rfl (by rw [← p1_n1 m hm]; rfl) ?_
  refine mm_pfi (h' := p1_w fs0 rest q (m + 1) (xs.set m (c &&& Int32.ofInt 255))) rfl rfl ?_
  exact mm_at_blk p1_b11_36 (by omega) (Or.inl rfl) ⟨rfl, rfl, _, by rw [List.length_set]; exact hx, rfl⟩
/-- the second loop: the characters are put -/
theorem p1_l66 {w : Int64} {Post : mm_A → mm_H → Prop} (hT : ∀ m xs, Post (aX (vI 1)) (p1_w fs0 rest q m xs)) : ∀ k, k ≤ 8 → ∀ (m : Nat) (xs : List Int32) (a : Int32) (o : Option mm_V), m + k ≤ 8 → xs.length = 120 → mm_P Z 11 8 66 [some (vR 0), some (vJ w), none, some (vI a), some (vI (p1_sh k)), o] [] (p1_w fs0 rest q m xs) Post
  | 0, _, m, xs, a, o, _, _ => by
    refine mm_at_blk p1_b8_66 (by omega) (Or.inl rfl) ?_
    refine mm_st rfl rfl ?_
    refine ⟨fun _ => ?_, fun z => absurd p1_sh0 z⟩
    exact mm_at_blk p1_b8_99 (by omega) (Or.inl rfl) (mm_st rfl rfl ⟨Or.inr rfl, hT m xs⟩)
  | k + 1, hk, m, xs, a, o, hm, hx => by
    have h93 : ∀ (m : Nat) (xs : List Int32), m + k ≤ 8 → xs.length = 120 → mm_P Z 11 8 93 [some (vR 0), some (vJ w), none, some (vI a), some (vI (p1_sh (k + 1))), some (vI (p1_ch w (p1_sh (k + 1))))] [] (p1_w fs0 rest q m xs) Post := by
      intro m xs hm hx
      refine mm_at_blk p1_b8_93 (by omega) (Or.inl rfl) ?_
      refine mm_st (L' := [some (vR 0), some (vJ w), none, some (vI a), some (vI (p1_sh k)), some (vI (p1_ch w (p1_sh (k + 1))))]) rfl (by rw [← p1_shd k (by omega)]; rfl) ?_
      exact p1_l66 hT k (by omega) m xs a _ hm hx
    refine mm_at_blk p1_b8_66 (by omega) (Or.inl rfl) ?_
    refine mm_st rfl rfl ?_
    refine ⟨fun z => absurd z (p1_shn k (by omega)), fun _ => ?_⟩
    refine mm_st rfl rfl ?_
    refine mm_st rfl rfl ?_
    refine mm_is (d := 10) (vs := [vJ w, vI (p1_sh (k + 1))]) (r := []) p1_na9 (by simp) p1_G9 (fun r h hr => ?_)
    obtain ⟨rfl, rfl⟩ := hr
    show mm_wp _ _ _ _ _ _ _ _ _ _ _ _
    refine mm_st (L' := [some (vR 0), some (vJ w), none, some (vI a), some (vI (p1_sh (k + 1))), some (vI (p1_ch w (p1_sh (k + 1))))]) (st' := []) rfl rfl ?_
    refine mm_st rfl rfl ?_
    refine ⟨fun _ => h93 m xs (by omega) hx, fun _ => ?_⟩
    refine mm_st rfl rfl ?_
    refine mm_gf (v := vR 1) rfl ?_
    refine mm_st rfl rfl ?_
    refine mm_iv (d := 10) (vs := [vR 1, vI (p1_ch w (p1_sh (k + 1)))]) (r := []) p1_na11 (by simp) (by rw [p1_ci11]; rfl) (p1_G11 (by omega) hx) (fun r h hr => ?_)
    obtain ⟨rfl, ys, hy, rfl⟩ := hr
    exact h93 (m + 1) ys (by omega) hy
/-- the first loop: every character is allowed, or the answer is false -/
theorem p1_l6 {w : Int64} {xs : List Int32} {Post : mm_A → mm_H → Prop} (hx : xs.length = 120) : ∀ k, k ≤ 8 → (p1_all w k = true → ∀ m xs, Post (aX (vI 1)) (p1_w fs0 rest q m xs)) → (p1_all w k = false → Post (aX (vI 0)) (p1_w fs0 rest q 0 xs)) → ∀ (a : Nat) (o : Option mm_V), a + k ≤ 8 → mm_P Z 11 8 6 [some (vR 0), some (vJ w), none, some (vI (Int32.ofNat a)), some (vI (p1_sh k)), o] [] (p1_w fs0 rest q 0 xs) Post
  | 0, _, hT, _, a, o, ha => by
    refine mm_at_blk p1_b8_6 (by omega) (Or.inl rfl) ?_
    refine mm_st rfl rfl ?_
    refine ⟨fun _ => ?_, fun z => absurd p1_sh0 z⟩
    refine mm_at_blk p1_b8_49 (by omega) (Or.inl rfl) ?_
    refine mm_st rfl rfl ?_
    refine mm_st rfl rfl ?_
    refine mm_gf (v := vR 1) rfl ?_
    refine mm_iv (d := 10) (vs := [vR 1]) (r := [vI (Int32.ofNat a)]) p1_na10 (by simp) (by rw [p1_ci10]; rfl) (p1_G10 hx) (fun r h hr => ?_)
    obtain ⟨rfl, rfl⟩ := hr
    refine ⟨fun _ => ?_, fun z => absurd (p1_nl a (by omega)) z⟩
    refine mm_at_blk p1_b8_62 (by omega) (Or.inl rfl) ?_
    refine mm_st rfl rfl ?_
    refine mm_st (L' := [some (vR 0), some (vJ w), none, some (vI (Int32.ofNat a)), some (vI (p1_sh 8)), o]) rfl (by rw [p1_sh8]; rfl) ?_
    exact p1_l66 (hT rfl) 8 (by omega) 0 xs _ _ (by omega) hx
  | k + 1, hk, hT, hF, a, o, ha => by
    have hs : p1_all w (k + 1) = (p1_ok (p1_ch w (p1_sh (k + 1))) && p1_all w k) := rfl
    rw [hs] at hT hF
    have h38 : p1_ok (p1_ch w (p1_sh (k + 1))) = false → mm_P Z 11 8 38 [some (vR 0), some (vJ w), none, some (vI (Int32.ofNat a)), some (vI (p1_sh (k + 1))), some (vI (p1_ch w (p1_sh (k + 1))))] [] (p1_w fs0 rest q 0 xs) Post := by
      intro hf
      rw [hf, Bool.false_and] at hF
      exact mm_at_blk p1_b8_38 (by omega) (Or.inl rfl) (mm_st rfl rfl ⟨Or.inl rfl, hF rfl⟩)
    have h43 : p1_ok (p1_ch w (p1_sh (k + 1))) = true → ∀ a : Nat, a + k ≤ 8 → mm_P Z 11 8 43 [some (vR 0), some (vJ w), none, some (vI (Int32.ofNat a)), some (vI (p1_sh (k + 1))), some (vI (p1_ch w (p1_sh (k + 1))))] [] (p1_w fs0 rest q 0 xs) Post := by
      intro hf a ha
      rw [hf, Bool.true_and] at hT hF
      refine mm_at_blk p1_b8_43 (by omega) (Or.inl rfl) ?_
      refine mm_st (L' := [some (vR 0), some (vJ w), none, some (vI (Int32.ofNat a)), some (vI (p1_sh k)), some (vI (p1_ch w (p1_sh (k + 1))))]) rfl (by rw [← p1_shd k (by omega)]; rfl) ?_
      exact p1_l6 hx k (by omega) hT hF a _ ha
    have h40 : p1_ok (p1_ch w (p1_sh (k + 1))) = true → mm_P Z 11 8 40 [some (vR 0), some (vJ w), none, some (vI (Int32.ofNat a)), some (vI (p1_sh (k + 1))), some (vI (p1_ch w (p1_sh (k + 1))))] [] (p1_w fs0 rest q 0 xs) Post := by
      intro hf
      refine mm_at_blk p1_b8_40 (by omega) (Or.inl rfl) ?_
      refine mm_st (L' := [some (vR 0), some (vJ w), none, some (vI (Int32.ofNat (a + 1))), some (vI (p1_sh (k + 1))), some (vI (p1_ch w (p1_sh (k + 1))))]) rfl (by rw [← p1_n1 a (by omega)]; rfl) ?_
      exact h43 hf (a + 1) (by omega)
    refine mm_at_blk p1_b8_6 (by omega) (Or.inl rfl) ?_
    refine mm_st rfl rfl ?_
    refine ⟨fun z => absurd z (p1_shn k (by omega)), fun _ => ?_⟩
    refine mm_st rfl rfl ?_
    refine mm_st rfl rfl ?_
    refine mm_is (d := 10) (vs := [vJ w, vI (p1_sh (k + 1))]) (r := []) p1_na9 (by simp) p1_G9 (fun r h hr => ?_)
    obtain ⟨rfl, rfl⟩ := hr
    show mm_wp _ _ _ _ _ _ _ _ _ _ _ _
    refine mm_st (L' := [some (vR 0), some (vJ w), none, some (vI (Int32.ofNat a)), some (vI (p1_sh (k + 1))), some (vI (p1_ch w (p1_sh (k + 1))))]) (st' := []) rfl rfl ?_
    refine mm_st rfl rfl ?_
    refine ⟨fun z => h43 ?_ a (by omega), fun z => ?_⟩
    · have z : p1_ch w (p1_sh (k + 1)) = 0 := z
      simp [p1_ok, z]
    have z : ¬ p1_ch w (p1_sh (k + 1)) = 0 := z
    refine mm_st rfl rfl ?_
    refine mm_st rfl rfl ?_
    refine ⟨fun z2 => h38 ?_, fun z2 => ?_⟩
    · have z2 : p1_ch w (p1_sh (k + 1)) < Int32.ofInt 32 := z2
      unfold p1_ok
      rw [decide_eq_false z, decide_eq_false (Classical.not_not.mpr z2)]
      simp
    have z2 : ¬ p1_ch w (p1_sh (k + 1)) < Int32.ofInt 32 := z2
    refine mm_st rfl rfl ?_
    refine mm_st rfl rfl ?_
    refine ⟨fun z3 => h40 ?_, fun z3 => h38 ?_⟩
    · have z3 : p1_ch w (p1_sh (k + 1)) ≤ Int32.ofInt 126 := z3
      unfold p1_ok
      rw [decide_eq_true z2, decide_eq_true z3]
      simp
    · have z3 : ¬ p1_ch w (p1_sh (k + 1)) ≤ Int32.ofInt 126 := z3
      unfold p1_ok
      rw [decide_eq_false z, decide_eq_false z3]
      simp
theorem p1_G8 {w : Int64} {xs : List Int32} (hx : xs.length = 120) : mm_G Z 11 8 [vR 0, vJ w] (p1_w fs0 rest q 0 xs) (fun r h => r = aX (vI (if p1_all w 8 = true then 1 else 0)) ∧ ∃ m ys, h = p1_w fs0 rest q m ys) := by
  refine mm_G_of (by rw [p1_ml8]; exact Nat.le_of_ble_eq_true rfl) ?_
  rw [p1_ml8]
  refine mm_at_blk (L := [some (vR 0), some (vJ w), none, none, none, none]) p1_b8_0 (by omega) (Or.inl rfl) ?_
  refine mm_st rfl rfl ?_
  refine mm_st rfl rfl ?_
  refine mm_st rfl rfl ?_
  refine mm_st (L' := [some (vR 0), some (vJ w), none, some (vI (Int32.ofNat 0)), some (vI (p1_sh 8)), none]) rfl (by rw [p1_sh8]; rfl) ?_
  refine p1_l6 hx 8 (by omega) (fun h m ys => ⟨by rw [if_pos h], m, ys, rfl⟩) (fun h => ⟨by rw [h]; rfl, 0, xs, rfl⟩) 0 none (by omega)
end P1W
/-- the model's heap while a first text is written -/
def p1_M (F : List mm_O) (f2 f3 f4 : mm_V) (fs : List mm_V) (T : List mm_O) (q : Nat × Nat) (t n : Int32) (xs : List Int32) : mm_H := (F ++ .inl (10, vI t :: vI n :: f2 :: f3 :: f4 :: vR 26 :: fs) :: .inr (.inl (2, xs)) :: T, q)
section P1M
variable {Z : Nat → List Int32} {F : List mm_O} {f2 f3 f4 : mm_V} {fs : List mm_V} {T : List mm_O} {q : Nat × Nat}
theorem p1_M25 (hF : F.length = 25) {t n : Int32} {xs : List Int32} : (p1_M F f2 f3 f4 fs T q t n xs).1[25]? = some (.inl (10, vI t :: vI n :: f2 :: f3 :: f4 :: vR 26 :: fs)) := by
  show (F ++ _)[25]? = _
  rw [List.getElem?_append_right (by omega), hF]
  rfl
theorem p1_M26 (hF : F.length = 25) {t n : Int32} {xs : List Int32} : (p1_M F f2 f3 f4 fs T q t n xs).1[26]? = some (.inr (.inl (2, xs))) := by
  show (F ++ _)[26]? = _
  rw [List.getElem?_append_right (by omega), hF]
  rfl
theorem p1_Mf (hF : F.length = 25) {t n : Int32} {xs : List Int32} {k : Nat} : mm_fld (p1_M F f2 f3 f4 fs T q t n xs) 25 10 k = (vI t :: vI n :: f2 :: f3 :: f4 :: vR 26 :: fs)[k]? := by
  unfold mm_fld
  rw [p1_M25 hF]
  rfl
theorem p1_Mp0 (hF : F.length = 25) {t t' n : Int32} {xs : List Int32} : mm_put (p1_M F f2 f3 f4 fs T q t n xs) 25 10 0 (vI t') = some (p1_M F f2 f3 f4 fs T q t' n xs) := by
  unfold mm_put
  rw [p1_M25 hF]
  have h : (p1_M F f2 f3 f4 fs T q t n xs).1.set 25 (.inl (10, vI t' :: vI n :: f2 :: f3 :: f4 :: vR 26 :: fs)) = (p1_M F f2 f3 f4 fs T q t' n xs).1 := by
    show (F ++ _).set 25 _ = _
    rw [List.set_append_right _ _ (by omega), hF]
    rfl
  show (if 10 = 10 ∧ 0 < (fs.length + 6) then some _ else none) = _
  rw [if_pos ⟨rfl, by omega⟩]
  exact congrArg some (Prod.ext h rfl)
theorem p1_Mp1 (hF : F.length = 25) {t n n' : Int32} {xs : List Int32} : mm_put (p1_M F f2 f3 f4 fs T q t n xs) 25 10 1 (vI n') = some (p1_M F f2 f3 f4 fs T q t n' xs) := by
  unfold mm_put
  rw [p1_M25 hF]
  have h : (p1_M F f2 f3 f4 fs T q t n xs).1.set 25 (.inl (10, vI t :: vI n' :: f2 :: f3 :: f4 :: vR 26 :: fs)) = (p1_M F f2 f3 f4 fs T q t n' xs).1 := by
    show (F ++ _).set 25 _ = _
    rw [List.set_append_right _ _ (by omega), hF]
    rfl
  show (if 10 = 10 ∧ 1 < (fs.length + 6) then some _ else none) = _
  rw [if_pos ⟨rfl, by omega⟩]
  exact congrArg some (Prod.ext h rfl)
theorem p1_Mi (hF : F.length = 25) {t n : Int32} {m : Nat} {xs : List Int32} {x : Int32} (hm : m < 8) (hx : xs.length = 120) : mm_iast (p1_M F f2 f3 f4 fs T q t n xs) 26 2 (Int32.ofNat m) x = some (p1_M F f2 f3 f4 fs T q t n (xs.set m x)) := by
  have h1 : mm_int (p1_M F f2 f3 f4 fs T q t n xs) 26 2 = some xs := by
    unfold mm_int
    rw [p1_M26 hF]
    rfl
  unfold mm_iast
  rw [h1, Option.bind_some, hx, p1_nx m hm]
  have h : (p1_M F f2 f3 f4 fs T q t n xs).1.set 26 (.inr (.inl (2, xs.set m x))) = (p1_M F f2 f3 f4 fs T q t n (xs.set m x)).1 := by
    show (F ++ _).set 26 _ = _
    rw [List.set_append_right _ _ (by omega), hF]
    rfl
  exact congrArg some (Prod.ext h rfl)
abbrev p1_gI (g : Bool) : Int32 := if g = true then 1 else 0
/-- the model's loop -/
theorem p1_l17 (hF : F.length = 25) {w : Int64} : ∀ k, k ≤ 8 → ∀ (Post : mm_A → mm_H → Prop) (g : Bool) (m : Nat) (xs : List Int32) (o : Option mm_V), m + k ≤ 8 → xs.length = 120 → (∀ h, Post (aX (vI (p1_gI (g && p1_all w k)))) h) → mm_P Z 11 110 17 [some (vR 25), some (vJ w), none, some (vI (Int32.ofNat m)), some (vI (p1_gI g)), some (vI (Int32.ofInt ((k : Int) - 1))), o] [] (p1_M F f2 f3 f4 fs T q 0 0 xs) Post
  | 0, _, Post, g, m, xs, o, _, _, hP => by
    have h115 : ∀ n : Int32, mm_P Z 11 110 115 [some (vR 25), some (vJ w), none, some (vI (Int32.ofNat m)), some (vI (p1_gI g)), some (vI (Int32.ofInt (((0 : Nat) : Int) - 1))), o] [vI n, vR 25] (p1_M F f2 f3 f4 fs T q 0 0 xs) Post := by
      intro n
      refine mm_at_blk p1_b110_115 (by omega) (Or.inl rfl) ?_
      refine mm_pfi rfl (p1_Mp1 hF) ?_
      refine mm_st rfl rfl ?_
      refine ⟨by cases g <;> simp [p1_gI], ?_⟩
      have := hP (p1_M F f2 f3 f4 fs T q 0 n xs)
      rwa [show p1_all w 0 = true from rfl, Bool.and_true] at this
    refine mm_at_blk p1_b110_17 (by omega) (Or.inl rfl) ?_
    refine mm_st rfl rfl ?_
    refine ⟨fun _ => ?_, fun z => absurd (mm_cmpb_iff.mp (by decide)) z⟩
    refine mm_at_blk p1_b110_101 (by omega) (Or.inl rfl) ?_
    refine mm_st rfl rfl ?_
    refine mm_st rfl rfl ?_
    refine ⟨fun _ => ?_, fun _ => ?_⟩
    · refine mm_at_blk p1_b110_111 (by omega) (Or.inl rfl) ?_
      refine mm_st rfl rfl ?_
      exact mm_gf (p1_Mf hF) (h115 _)
    · exact mm_st rfl rfl (h115 _)
  | k + 1, hk, Post, g, m, xs, o, hm, hx, hP => by
    have hs : p1_all w (k + 1) = (p1_ok (p1_ch w (p1_sh (k + 1))) && p1_all w k) := rfl
    rw [hs, ← Bool.and_assoc] at hP
    generalize hc : p1_ch w (p1_sh (k + 1)) = c at hP
    have h95 : ∀ (g' : Bool) (m : Nat) (xs : List Int32), g' = (g && p1_ok c) → m + k ≤ 8 → xs.length = 120 → mm_P Z 11 110 95 [some (vR 25), some (vJ w), none, some (vI (Int32.ofNat m)), some (vI (p1_gI g')), some (vI (Int32.ofInt (k : Int))), some (vI c)] [] (p1_M F f2 f3 f4 fs T q 0 0 xs) Post := by
      intro g' m xs hg hm hx
      refine mm_at_blk p1_b110_95 (by omega) (Or.inl rfl) ?_
      refine mm_st (L' := [some (vR 25), some (vJ w), none, some (vI (Int32.ofNat m)), some (vI (p1_gI g')), some (vI (Int32.ofInt ((k : Int) - 1))), some (vI c)]) rfl (by rw [← p1_kd k (by omega)]; rfl) ?_
      exact p1_l17 hF k (by omega) Post g' m xs _ hm hx (by rw [hg]; exact hP)
    have h71 : ∀ g' : Bool, g' = (g && p1_ok c) → mm_P Z 11 110 71 [some (vR 25), some (vJ w), none, some (vI (Int32.ofNat m)), some (vI (p1_gI g)), some (vI (Int32.ofInt (k : Int))), some (vI c)] [vI (p1_gI g')] (p1_M F f2 f3 f4 fs T q 0 0 xs) Post := by
      intro g' hg
      refine mm_at_blk p1_b110_71 (by omega) (Or.inl rfl) ?_
      refine mm_st rfl rfl ?_
      refine mm_st rfl rfl ?_
      refine ⟨fun _ => h95 g' m xs hg (by omega) hx, fun _ => ?_⟩
      refine mm_st rfl rfl ?_
      refine ⟨fun _ => h95 g' m xs hg (by omega) hx, fun _ => ?_⟩
      refine mm_st rfl rfl ?_
      refine mm_gf (v := vR 26) (p1_Mf hF) ?_
      refine mm_st rfl rfl ?_
      refine mm_st rfl rfl ?_
      refine mm_st rfl rfl ?_
      refine mm_cs (p1_Mi hF (by omega) hx) ?_
      refine mm_st (L' := [some (vR 25), some (vJ w), none, some (vI (Int32.ofNat (m + 1))), some (vI (p1_gI g')), some (vI (Int32.ofInt (k : Int))), some (vI c)]) rfl (by rw [← p1_n1 m (by omega)]; rfl) ?_
      exact h95 g' (m + 1) _ hg (by omega) (by rw [List.length_set]; exact hx)
    have h66 : (g && p1_ok c) = true → mm_P Z 11 110 66 [some (vR 25), some (vJ w), none, some (vI (Int32.ofNat m)), some (vI (p1_gI g)), some (vI (Int32.ofInt (k : Int))), some (vI c)] [] (p1_M F f2 f3 f4 fs T q 0 0 xs) Post := fun hg => mm_at_blk p1_b110_66 (by omega) (Or.inl rfl) (mm_st rfl rfl (h71 true hg.symm))
    have h70 : (g && p1_ok c) = false → mm_P Z 11 110 70 [some (vR 25), some (vJ w), none, some (vI (Int32.ofNat m)), some (vI (p1_gI g)), some (vI (Int32.ofInt (k : Int))), some (vI c)] [] (p1_M F f2 f3 f4 fs T q 0 0 xs) Post := fun hg => mm_at_blk p1_b110_70 (by omega) (Or.inl rfl) (mm_st rfl rfl (h71 false hg.symm))
    rw [p1_kk k (by omega)]
    refine mm_at_blk p1_b110_17 (by omega) (Or.inl rfl) ?_
    refine mm_st rfl rfl ?_
    refine ⟨fun z => absurd z (by rw [← p1_kk k (by omega)]; exact p1_kn k (by omega)), fun _ => ?_⟩
    refine mm_st rfl rfl ?_
    refine mm_st rfl rfl ?_
    refine mm_st rfl rfl ?_
    refine mm_st (st' := [vI (p1_sh (k + 1)), vJ w]) rfl (by rw [← p1_shm k (by omega)]; rfl) ?_
    refine mm_st rfl rfl ?_
    refine mm_st rfl rfl ?_
    refine mm_st rfl rfl ?_
    refine mm_st (st' := [vI c]) rfl (by rw [← hc]; rfl) ?_
    refine mm_st (L' := [some (vR 25), some (vJ w), none, some (vI (Int32.ofNat m)), some (vI (p1_gI g)), some (vI (Int32.ofInt (k : Int))), some (vI c)]) (st' := []) rfl rfl ?_
    refine mm_st rfl rfl ?_
    refine ⟨fun z => h70 ?_, fun z => ?_⟩
    · have z : p1_gI g = 0 := z
      cases g
      · rfl
      · exact absurd z (by decide)
    have hg : g = true := by
      cases g
      · exact absurd (show p1_gI false = 0 from rfl) z
      · rfl
    refine mm_st rfl rfl ?_
    refine ⟨fun z => h66 ?_, fun z2 => ?_⟩
    · have z : c = 0 := z
      simp [hg, p1_ok, z]
    have z2 : ¬ c = 0 := z2
    refine mm_st rfl rfl ?_
    refine mm_st rfl rfl ?_
    refine ⟨fun z3 => h70 ?_, fun z3 => ?_⟩
    · have z3 : c ≤ Int32.ofInt 31 := z3
      have z4 : c < Int32.ofInt 32 := by
        rw [Int32.lt_iff_toInt_lt]
        rw [Int32.le_iff_toInt_le] at z3
        have e1 : (Int32.ofInt 31).toInt = 31 := by decide
        have e2 : (Int32.ofInt 32).toInt = 32 := by decide
        omega
      unfold p1_ok
      rw [decide_eq_false z2, decide_eq_false (Classical.not_not.mpr z4)]
      simp
    have z3 : ¬ c ≤ Int32.ofInt 31 := z3
    have z4 : ¬ c < Int32.ofInt 32 := by
      rw [Int32.lt_iff_toInt_lt]
      rw [Int32.le_iff_toInt_le] at z3
      have e1 : (Int32.ofInt 31).toInt = 31 := by decide
      have e2 : (Int32.ofInt 32).toInt = 32 := by decide
      omega
    refine mm_st rfl rfl ?_
    refine mm_st rfl rfl ?_
    refine ⟨fun z5 => h70 ?_, fun z5 => ?_⟩
    · have z5 : Int32.ofInt 127 ≤ c := z5
      have z6 : ¬ c ≤ Int32.ofInt 126 := by
        rw [Int32.le_iff_toInt_le] at z5 ⊢
        have e1 : (Int32.ofInt 127).toInt = 127 := by decide
        have e2 : (Int32.ofInt 126).toInt = 126 := by decide
        omega
      unfold p1_ok
      rw [decide_eq_false z2, decide_eq_false z6]
      simp
    have z5 : ¬ Int32.ofInt 127 ≤ c := z5
    have z6 : c ≤ Int32.ofInt 126 := by
      rw [Int32.le_iff_toInt_le] at z5 ⊢
      have e1 : (Int32.ofInt 127).toInt = 127 := by decide
      have e2 : (Int32.ofInt 126).toInt = 126 := by decide
      omega
    refine mm_st rfl rfl ?_
    refine mm_st rfl rfl ?_
    refine ⟨fun z7 => absurd z7 (p1_ng2 m (by omega)), fun _ => h66 ?_⟩
    unfold p1_ok
    rw [hg, decide_eq_true z4, decide_eq_true z6]
    simp
theorem p1_G110 (hF : F.length = 25) {w : Int64} {t : Int32} {xs : List Int32} (hx : xs.length = 120) : mm_G Z 11 110 [vR 25, vJ w] (p1_M F f2 f3 f4 fs T q t 0 xs) (fun r _ => r = aX (vI (if p1_all w 8 = true then 1 else 0))) := by
  refine mm_G_of (by rw [p1_ml110]; exact Nat.le_of_ble_eq_true rfl) ?_
  rw [p1_ml110]
  refine mm_at_blk (L := [some (vR 25), some (vJ w), none, none, none, none, none]) p1_b110_0 (by omega) (Or.inl rfl) ?_
  refine mm_st rfl rfl ?_
  refine mm_st rfl rfl ?_
  refine mm_pfi rfl (p1_Mp0 hF) ?_
  refine mm_st rfl rfl ?_
  refine mm_gf (v := vI 0) (p1_Mf hF) ?_
  refine mm_st rfl rfl ?_
  refine mm_st rfl rfl ?_
  refine mm_st rfl rfl ?_
  refine mm_st rfl rfl ?_
  refine mm_st rfl rfl ?_
  exact p1_l17 hF 8 (by omega) _ true 0 xs none (by omega) hx (fun h => rfl)
end P1M
/-- what the heap looks like where write looks -/
def p1_shb (h : mm_H) : Bool := match h.1 with
  | .inl (c0, .inr (.inr (.inl (some v0))) :: _) :: .inl (c1, [.inr (.inr (.inl (some v1))), .inl n1]) :: .inr (.inl (k2, ys)) :: rest => decide (c0 = 0) && decide (v0 = 1) && decide (c1 = 1) && decide (v1 = 2) && decide (n1 = Int32.ofNat 0) && decide (k2 = 0) && decide (ys = List.replicate 120 0) && (match rest.drop 22 with
    | .inl (c, .inl _ :: .inl b :: _ :: _ :: _ :: .inr (.inr (.inl (some f5))) :: _) :: .inr (.inl (kd, xs)) :: _ => decide (c = 10) && decide (b = 0) && decide (f5 = 26) && decide (kd = 2) && decide (xs.length = 120)
    | _ => false)
  | _ => false
theorem p1_shb_of {h : mm_H} (hb : p1_shb h = true) : ∃ fs0 F q t f2 f3 f4 fs xs T, F.length = 22 ∧ xs.length = 120 ∧ h = p1_w fs0 (F ++ .inl (10, vI t :: vI 0 :: f2 :: f3 :: f4 :: vR 26 :: fs) :: .inr (.inl (2, xs)) :: T) q 0 (List.replicate 120 0) := by
  obtain ⟨cells, q⟩ := h
  unfold p1_shb at hb
  simp only at hb
  split at hb
  · rename_i c0 v0 fs0 c1 v1 n1 k2 ys rest
    simp only [Bool.and_eq_true, decide_eq_true_eq] at hb
    obtain ⟨⟨⟨⟨⟨⟨⟨rfl, rfl⟩, rfl⟩, rfl⟩, rfl⟩, rfl⟩, rfl⟩, hb⟩ := hb
    split at hb
    · rename_i c t b f2 f3 f4 f5 fs kd xs T hd
      simp only [Bool.and_eq_true, decide_eq_true_eq] at hb
      obtain ⟨⟨⟨⟨rfl, rfl⟩, rfl⟩, rfl⟩, hx⟩ := hb
      refine ⟨fs0, rest.take 22, q, t, f2, f3, f4, fs, xs, T, ?_, hx, ?_⟩
      · have := congrArg List.length hd
        rw [List.length_drop, List.length_cons] at this
        rw [List.length_take]
        omega
      · unfold p1_w
        rw [← hd, List.take_append_drop]
    · cases hb
  · cases hb
set_option maxRecDepth 100000 in
theorem p1_shape : p1_shb p1_h = true := by decide +kernel
/-- the word of two numbers of the script -/
def p1_word (a b : Int32) : Int64 := (a.toInt64 <<< ((Int32.ofInt 32).toInt64 &&& 63)) ||| (b.toInt64 &&& Int64.ofInt 4294967295)
theorem p1_Mr {F : List mm_O} {f2 f3 f4 : mm_V} {fs : List mm_V} {T : List mm_O} {q : Nat × Nat} {t n : Int32} {xs : List Int32} {vs : List mm_V} (hF : F.length = 25) : mm_rcvb (p1_M F f2 f3 f4 fs T q t n xs) (vR 25 :: vs) 10 = true := by
  unfold mm_rcvb
  simp only [p1_M25 hF]
  rfl
theorem p1_c104 {Z : Nat → List Int32} (hn : (Z 1).length = 3) : mm_P Z 12 167 104 (p1_L 0 none none) [] p1_h p1_Post := by
  obtain ⟨fs0, F, q, t, f2, f3, f4, fs, xs, T, hF, hx, he⟩ := p1_shb_of p1_shape
  obtain ⟨a, b, ha, hb⟩ := p1_z hn
  have h480 : ∀ h, mm_P Z 12 167 480 (p1_L 0 none none) [] h p1_Post := fun h => p1_480 hn (Nat.le_refl _)
  rw [he]
  refine mm_at_blk p1_b167_104 (by omega) (Or.inl rfl) ?_
  refine mm_st rfl rfl ?_
  refine mm_st rfl rfl ?_
  refine mm_st rfl rfl ?_
  refine mm_st rfl rfl ?_
  refine mm_st rfl rfl ?_
  refine mm_zi ha ?_
  refine mm_st rfl rfl ?_
  refine mm_st rfl rfl ?_
  refine mm_st rfl rfl ?_
  refine mm_st rfl rfl ?_
  refine mm_st rfl rfl ?_
  refine mm_st rfl rfl ?_
  refine mm_st rfl rfl ?_
  refine mm_zi hb ?_
  refine mm_st rfl rfl ?_
  refine mm_st rfl rfl ?_
  refine mm_st rfl rfl ?_
  refine mm_st (st' := [vJ (p1_word a b), vR 0]) rfl rfl ?_
  refine mm_iv (d := 11) (vs := [vR 0, vJ (p1_word a b)]) (r := []) p1_na8 (by simp) (by rw [p1_ci8]; rfl) (p1_G8 (by rw [List.length_replicate])) (fun r h hr => ?_)
  obtain ⟨rfl, m, ys, rfl⟩ := hr
  show mm_wp _ _ _ _ _ _ _ _ _ _ _ _
  refine mm_st rfl rfl ?_
  refine mm_st rfl rfl ?_
  refine mm_st rfl rfl ?_
  refine mm_st rfl rfl ?_
  refine mm_st rfl rfl ?_
  refine mm_zi ha ?_
  refine mm_st rfl rfl ?_
  refine mm_st rfl rfl ?_
  refine mm_st rfl rfl ?_
  refine mm_st rfl rfl ?_
  refine mm_st rfl rfl ?_
  refine mm_st rfl rfl ?_
  refine mm_st rfl rfl ?_
  refine mm_zi hb ?_
  refine mm_st rfl rfl ?_
  refine mm_st rfl rfl ?_
  refine mm_st rfl rfl ?_
  refine mm_st (st' := [vJ (p1_word a b), vR 25, vI (if p1_all (p1_word a b) 8 = true then 1 else 0)]) rfl rfl ?_
  have hM : p1_w fs0 (F ++ .inl (10, vI t :: vI 0 :: f2 :: f3 :: f4 :: vR 26 :: fs) :: .inr (.inl (2, xs)) :: T) q m ys = p1_M (.inl (0, vR 1 :: fs0) :: .inl (1, [vR 2, vI (Int32.ofNat m)]) :: .inr (.inl (0, ys)) :: F) f2 f3 f4 fs T q t 0 xs := rfl
  have hF2 : (Sum.inl (0, vR 1 :: fs0) :: Sum.inl (1, [vR 2, vI (Int32.ofNat m)]) :: Sum.inr (Sum.inl (0, ys)) :: F : List mm_O).length = 25 := by simp [hF]
  rw [hM]
  refine mm_iv (d := 11) (vs := [vR 25, vJ (p1_word a b)]) (r := [vI (if p1_all (p1_word a b) 8 = true then 1 else 0)]) p1_na110 (by simp) (by rw [p1_ci110]; exact p1_Mr hF2) (p1_G110 hF2 hx) (fun r h hr => ?_)
  obtain rfl := hr
  exact ⟨fun _ => h480 _, fun z => absurd rfl z⟩
