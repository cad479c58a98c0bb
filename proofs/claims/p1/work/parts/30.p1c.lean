/-! A FIRST CALL WITH A NUMBER -/
theorem mm_End_mono {R : Room} {s : State} {below : List Frame} {D : va_G} {cT : Nat → ClassId} {zt : Nat → Nat} {A : Nat → Prop} {rho0 : List Nat} {P Q : mm_A → mm_H → Prop} (hPQ : ∀ r h, P r h → Q r h) {t : State} (h : mm_End R s below D cT zt A rho0 P t) : mm_End R s below D cT zt A rho0 Q t := by
  obtain ⟨r, h', rho, o, Lc, k, n, hp, hrest⟩ := h
  exact ⟨r, h', rho, o, Lc, k, n, hPQ r h' hp, hrest⟩
theorem mm_G_mono {Z : Nat → List Int32} {d mi : Nat} {vs : List mm_V} {h : mm_H} {P Q : mm_A → mm_H → Prop} (hG : mm_G Z d mi vs h P) (hPQ : ∀ r h, P r h → Q r h) : mm_G Z d mi vs h Q := by
  intro p l e R s m below meth c D cT zt A rho hF h1 h2 h3 h4 h5 h6 h7 T hT X
  obtain ⟨t, a, b⟩ := hG p l e R s m below meth c D cT zt A rho hF h1 h2 h3 h4 h5 h6 h7 T hT X
  exact ⟨t, a, mm_End_mono hPQ b⟩
section MST
variable {Z : Nat → List Int32} {d : Nat} {J : Nat → mm_L → List mm_V → mm_H → Prop} {C : Nat → List mm_V → mm_H → (mm_A → mm_H → Prop) → Prop} {Q : mm_A → mm_H → Prop} {is : List Instr} {L : mm_L} {r : List mm_V} {h h' : mm_H}
theorem mm_gf {a ci k : Nat} {v : mm_V} (hf : mm_fld h a ci k = some v) (hk : mm_wp mm_K Z mm_na 6 mm_ci J C Q is L (v :: r) h) : mm_wp mm_K Z mm_na 6 mm_ci J C Q (.invokeinterface ci k :: is) L (vR a :: r) h := mm_st rfl (by simp [mm_s1, hf]) hk
theorem mm_pfi {a ci k : Nat} {x : Int32} (ht : (mm_K ci)[k]? = some .int) (hf : mm_put h a ci k (vI x) = some h') (hk : mm_wp mm_K Z mm_na 6 mm_ci J C Q is L r h') : mm_wp mm_K Z mm_na 6 mm_ci J C Q (.multianewarray ci k :: is) L (vI x :: vR a :: r) h := mm_st rfl (by simp [mm_s1, ht, hf]) hk
theorem mm_zi {i x : Int32} (hz : mm_zald Z 1 i = some x) (hk : mm_wp mm_K Z mm_na 6 mm_ci J C Q is L (vI x :: r) h) : mm_wp mm_K Z mm_na 6 mm_ci J C Q (.iaload :: is) L (vI i :: vZ 1 :: r) h := mm_st rfl (by simp [mm_s1, hz]) hk
/-- a call over the arguments vs -/
theorem mm_iv {m : Nat} {vs : List mm_V} {P : mm_A → mm_H → Prop} (hn : mm_na m = vs.length) (hl : vs.length + r.length ≤ 12) (hr : mm_rcvb h vs (mm_ci m) = true) (hG : mm_G Z d m vs h P) (hP : ∀ a h', P a h' → mm_Kt Q (mm_wp mm_K Z mm_na 6 mm_ci J (mm_C Z (d + 1)) Q is L) r a h') : mm_wp mm_K Z mm_na 6 mm_ci J (mm_C Z (d + 1)) Q (.invokevirtual m :: is) L (vs.reverse ++ r) h := by
  have h1 : (vs.reverse ++ r).take (mm_na m) = vs.reverse := by rw [hn, ← List.length_reverse]; exact List.take_left
  have h2 : (vs.reverse ++ r).drop (mm_na m) = r := by rw [hn, ← List.length_reverse]; exact List.drop_left
  show mm_na m ≤ (vs.reverse ++ r).length ∧ (vs.reverse ++ r).length ≤ 12 ∧ mm_rcv h ((vs.reverse ++ r).take (mm_na m)).reverse (mm_ci m) ∧ mm_C Z (d + 1) m ((vs.reverse ++ r).take (mm_na m)).reverse h (mm_Kt Q (mm_wp mm_K Z mm_na 6 mm_ci J (mm_C Z (d + 1)) Q is L) ((vs.reverse ++ r).drop (mm_na m)))
  rw [h1, h2, List.reverse_reverse]
  exact ⟨by rw [hn]; simp, by simp; omega, mm_rcvb_of hr, mm_G_mono hG hP⟩
end MST
/-- the script's numbers -/
theorem p1_z {Z : Nat → List Int32} (hn : (Z 1).length = 3) : ∃ a b : Int32, mm_zald Z 1 (0 + Int32.ofInt 1) = some a ∧ mm_zald Z 1 (0 + Int32.ofInt 2) = some b := by
  unfold mm_zald
  rw [hn]
  refine ⟨(Z 1)[1]'(by omega), (Z 1)[2]'(by omega), ?_, ?_⟩
  · have : mm_ix (0 + Int32.ofInt 1) 3 = some 1 := by decide
    rw [this]
    exact List.getElem?_eq_getElem _
  · have : mm_ix (0 + Int32.ofInt 2) 3 = some 2 := by decide
    rw [this]
    exact List.getElem?_eq_getElem _
/-- the model's heap behind thrown = 0 -/
def p1_m : mm_H := (mm_put p1_h 25 10 0 (vI 0)).getD p1_h
def p1_f (h : mm_H) (a ci k : Nat) (v : mm_V) : Bool := decide (mm_fld h a ci k = some v)
theorem p1_f_of {h : mm_H} {a ci k : Nat} {v : mm_V} (hb : p1_f h a ci k v = true) : mm_fld h a ci k = some v := by simpa [p1_f] using hb
set_option maxRecDepth 100000 in
theorem p1_put : (mm_put p1_h 25 10 0 (vI 0)).isSome = true := by decide +kernel
theorem p1_put_eq : mm_put p1_h 25 10 0 (vI 0) = some p1_m := by
  have h := p1_put
  unfold p1_m
  cases hq : mm_put p1_h 25 10 0 (vI 0) with
  | none => rw [hq] at h; cases h
  | some x => rfl
set_option maxRecDepth 100000 in
theorem p1_flds : (p1_f p1_h 0 0 5 (vR 19) && p1_f p1_h 0 0 2 (vR 5) && p1_f p1_h 5 8 1 (vI 0) && p1_f p1_h 19 5 0 (vR 20) && p1_f p1_h 19 5 2 (vI 0) && p1_f p1_h 19 5 5 (vI 0) && p1_f p1_h 19 5 6 (vI 0) && p1_f p1_h 19 5 7 (vI 0) && p1_f p1_h 19 5 8 (vI 0) && p1_f p1_h 19 5 9 (vI 0) && p1_f p1_h 20 1 1 (vI 0)) = true := by decide +kernel
set_option maxRecDepth 100000 in
theorem p1_mflds : (p1_f p1_m 25 10 2 (vI 0) && p1_f p1_m 25 10 46 (vI 0) && p1_f p1_m 25 10 48 (vI 0) && p1_f p1_m 25 10 49 (vI 0) && p1_f p1_m 25 10 50 (vI 0) && p1_f p1_m 25 10 51 (vI 0) && p1_f p1_m 25 10 52 (vI 0) && p1_f p1_m 25 10 53 (vI 0)) = true := by decide +kernel
set_option maxRecDepth 100000 in
theorem p1_rcv : (mm_rcvb p1_h [vR 0] 0 && mm_rcvb p1_h [vR 25] 10 && mm_rcvb p1_h [vR 19] 5 && mm_rcvb p1_h [vR 20] 1 && mm_rcvb p1_h [vR 5] 8) = true := by decide +kernel
theorem p1_rcv1 {a ci : Nat} {vs : List mm_V} (h : mm_rcvb p1_h [vR a] ci = true) : mm_rcvb p1_h (vR a :: vs) ci = true := h
/-! stack(k) -/
set_option maxRecDepth 100000 in
theorem p1_b25_28 : mm_blk 25 28 = some [.ireturn] := by decide +kernel
set_option maxRecDepth 100000 in
theorem p1_b25_27 : mm_blk 25 27 = some [.sipush (0), .goto_w 28] := by decide +kernel
set_option maxRecDepth 100000 in
theorem p1_b25_0 : mm_blk 25 0 = some [.iload 1, .ifCond .lt 27, .iload 1, .aload 0, .invokeinterface 5 2, .if_icmp .ge 27, .iload 1, .sipush (120), .if_icmp .ge 27, .aload 0, .invokeinterface 5 1, .iload 1, .iaload, .goto 28] := by decide +kernel
set_option maxRecDepth 100000 in
theorem p1_ml25 : mm_ml 25 = 2 := by decide +kernel
set_option maxRecDepth 100000 in
theorem p1_G25 {Z : Nat → List Int32} {k : Int32} : mm_G Z 10 25 [vR 19, vI k] p1_h (fun r h => r = aX (vI 0) ∧ h = p1_h) := by
  have hf := p1_flds
  simp only [Bool.and_eq_true] at hf
  have h28 : mm_P Z 10 25 28 [some (vR 19), some (vI k)] [vI 0] p1_h (fun r h => r = aX (vI 0) ∧ h = p1_h) := mm_at_blk p1_b25_28 (by omega) (Or.inl rfl) ⟨rfl, rfl⟩
  have h27 : mm_P Z 10 25 27 [some (vR 19), some (vI k)] [] p1_h (fun r h => r = aX (vI 0) ∧ h = p1_h) := mm_at_blk p1_b25_27 (by omega) (Or.inl rfl) (mm_st rfl rfl h28)
  refine mm_G_of (by rw [p1_ml25]; exact Nat.le_refl _) ?_
  rw [p1_ml25]
  refine mm_at_blk (L := [some (vR 19), some (vI k)]) p1_b25_0 (by omega) (Or.inl rfl) ?_
  refine mm_st rfl rfl ?_
  refine ⟨fun _ => h27, fun z => ?_⟩
  refine mm_st rfl rfl ?_
  refine mm_st rfl rfl ?_
  refine mm_gf (p1_f_of hf.1.1.1.1.1.1.2) ?_
  refine ⟨fun _ => h27, fun z2 => ?_⟩
  exact absurd (Int32.not_lt.mp z) z2
