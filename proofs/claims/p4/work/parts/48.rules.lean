/-! THE LAW'S LOOP, at most one call -/
theorem mm_F_le {Z : Nat → List Int32} {mi d d' : Nat} {p : Program} {e : Env} {R : Room} {s : State} {m : MethodId} {meth : Method} {c : Code} {D : va_G} {cT : Nat → ClassId} {zt : Nat → Nat} {A : Nat → Prop} (h : d ≤ d') (hF : mm_F Z mi d' p e R s m meth c D cT zt A) : mm_F Z mi d p e R s m meth c D cT zt A := by
  obtain ⟨hx, htr, hb, hr, hml, hown, hnm, hlk, hex, hd1, hd2, hA, hTb⟩ := hF
  exact ⟨hx, htr, hb, hr, hml, hown, hnm, hlk, hex, by omega, by omega, hA, hTb⟩
theorem mm_G_le {Z : Nat → List Int32} {mi d d' : Nat} {vs : List mm_V} {h : mm_H} {Post : mm_A → mm_H → Prop} (hd : d ≤ d') (hG : mm_G Z d mi vs h Post) : mm_G Z d' mi vs h Post := fun p l e R s m below meth c D cT zt A rho hF => hG p l e R s m below meth c D cT zt A rho (mm_F_le hd hF)
theorem mm_at_blk {Z : Nat → List Int32} {d mi pc : Nat} {is : List Instr} {L : mm_L} {st : List mm_V} {h : mm_H} {Post : mm_A → mm_H → Prop} (hb : mm_blk mi pc = some is) (hd : 6 ≤ d) (hh : mm_hd mi = [] ∨ is.all mm_nc = true) (hw : mm_wp mm_K Z mm_na 6 mm_ci (fun t L st h => mm_P Z d mi t L st h Post) (mm_C Z d) Post is L st h) : mm_P Z d mi pc L st h Post := by
  obtain ⟨hs, hchk⟩ := mm_blk_chk hb
  exact mm_sound hd is pc hs L st h hh hchk hw
/-- steps that go on -/
def mm_s1ok (i : Instr) : Bool := match i with
  | .goto _ => false
  | .goto_w _ => false
  | .if_icmp _ _ => false
  | .ifCond _ _ => false
  | .ifnull _ => false
  | .ifnonnull _ => false
  | .if_acmp _ _ => false
  | .lookupswitch _ _ => false
  | .invokestatic _ => false
  | .putstatic _ => false
  | .invokevirtual _ => false
  | .invokespecial _ => false
  | .checkcast _ => false
  | .return_ => false
  | .ireturn => false
  | .freturn => false
  | .lreturn => false
  | .areturn => false
  | .fadd => false
  | .fsub => false
  | _ => true
theorem mm_st {K : Nat → List FieldType} {Z : Nat → List Int32} {nA : Nat → Nat} {nE : Nat} {ci : Nat → Nat} {J : Nat → mm_L → List mm_V → mm_H → Prop} {C : Nat → List mm_V → mm_H → (mm_A → mm_H → Prop) → Prop} {Q : mm_A → mm_H → Prop} {i : Instr} {is : List Instr} {L L' : mm_L} {st st' : List mm_V} {h h' : mm_H} (hi : mm_s1ok i = true) (hs : mm_s1 K Z i L st h = some (L', st', h')) (hk : mm_wp K Z nA nE ci J C Q is L' st' h') : mm_wp K Z nA nE ci J C Q (i :: is) L st h := by
  unfold mm_wp
  split <;> first
    | (simp [mm_s1ok] at hi; done)
    | (rw [hs]; exact hk)
/-! A FIRST CALL WITH A NUMBER -/
theorem mm_End_mono {R : Room} {s : State} {below : List Frame} {D : va_G} {cT : Nat → ClassId} {zt : Nat → Nat} {A : Nat → Prop} {rho0 : List Nat} {P Q : mm_A → mm_H → Prop} (hPQ : ∀ r h, P r h → Q r h) {t : State} (h : mm_End R s below D cT zt A rho0 P t) : mm_End R s below D cT zt A rho0 Q t := by
  obtain ⟨r, h', rho, o, Lc, k, n, hp, hrest⟩ := h
  exact ⟨r, h', rho, o, Lc, k, n, hPQ r h' hp, hrest⟩
theorem mm_G_mono {Z : Nat → List Int32} {d mi : Nat} {vs : List mm_V} {h : mm_H} {P Q : mm_A → mm_H → Prop} (hG : mm_G Z d mi vs h P) (hPQ : ∀ r h, P r h → Q r h) : mm_G Z d mi vs h Q := by
  intro p l e R s m below meth c D cT zt A rho hF h1 h2 h3 h4 h5 h6 h7 T hT X
  obtain ⟨t, a, b⟩ := hG p l e R s m below meth c D cT zt A rho hF h1 h2 h3 h4 h5 h6 h7 T hT X
  exact ⟨t, a, mm_End_mono hPQ b⟩
section MST
variable {Z : Nat → List Int32} {d : Nat} {J : Nat → mm_L → List mm_V → mm_H → Prop} {C : Nat → List mm_V → mm_H → (mm_A → mm_H → Prop) → Prop} {Q : mm_A → mm_H → Prop} {is : List Instr} {L : mm_L} {r : List mm_V} {h h' : mm_H}
theorem mm_gf {a ci k : Nat} {v : mm_V} (hf : mm_fld h a ci k = some v) (hk : mm_wp mm_K Z mm_na 6 mm_ci J C Q is L (v :: r) h) : mm_wp mm_K Z mm_na 6 mm_ci J C Q (.invokeinterface ci k :: is) L (vR a :: r) h := mm_st rfl (by simp [mm_s1, hf]) hk
theorem mm_pfi {a ci k : Nat} {x : Int32} (ht : (mm_K ci)[k]? = some .int) (hf : mm_put h a ci k (vI x) = some h') (hk : mm_wp mm_K Z mm_na 6 mm_ci J C Q is L r h') : mm_wp mm_K Z mm_na 6 mm_ci J C Q (.multianewarray ci k :: is) L (vI x :: vR a :: r) h := mm_st rfl (by simp [mm_s1, ht, hf]) hk
theorem mm_zi {i x : Int32} (hz : mm_zald Z 1 i = some x) (hk : mm_wp mm_K Z mm_na 6 mm_ci J C Q is L (vI x :: r) h) : mm_wp mm_K Z mm_na 6 mm_ci J C Q (.iaload :: is) L (vI i :: vZ 1 :: r) h := mm_st rfl (by simp [mm_s1, hz]) hk
/-- a call over the arguments vs -/
theorem mm_iv {m : Nat} {vs : List mm_V} {P : mm_A → mm_H → Prop} (hn : mm_na m = vs.length) (hl : vs.length + r.length ≤ 12) (hr : mm_rcvb h vs (mm_ci m) = true) (hG : mm_G Z d m vs h P) (hP : ∀ a h', P a h' → mm_Kt Q (mm_wp mm_K Z mm_na 6 mm_ci J (mm_C Z (d + 1)) Q is L) r a h') : mm_wp mm_K Z mm_na 6 mm_ci J (mm_C Z (d + 1)) Q (.invokevirtual m :: is) L (vs.reverse ++ r) h := by
  have h1 : (vs.reverse ++ r).take (mm_na m) = vs.reverse := by rw [hn, ← List.length_reverse]; exact List.take_left
  have h2 : (vs.reverse ++ r).drop (mm_na m) = r := by rw [hn, ← List.length_reverse]; exact List.drop_left
  show mm_na m ≤ (vs.reverse ++ r).length ∧ (vs.reverse ++ r).length ≤ 12 ∧ mm_rcv h ((vs.reverse ++ r).take (mm_na m)).reverse (mm_ci m) ∧ mm_C Z (d + 1) m ((vs.reverse ++ r).take (mm_na m)).reverse h (mm_Kt Q (mm_wp mm_K Z mm_na 6 mm_ci J (mm_C Z (d + 1)) Q is L) ((vs.reverse ++ r).drop (mm_na m)))
  rw [h1, h2, List.reverse_reverse]
  exact ⟨by rw [hn]; simp, by simp; omega, mm_rcvb_of hr, mm_G_mono hG hP⟩
end MST
section MSW
variable {Z : Nat → List Int32} {d : Nat} {J : Nat → mm_L → List mm_V → mm_H → Prop} {C : Nat → List mm_V → mm_H → (mm_A → mm_H → Prop) → Prop} {Q : mm_A → mm_H → Prop} {is : List Instr} {L : mm_L} {r : List mm_V} {h h' : mm_H}
theorem mm_cs {a : Nat} {i x : Int32} (hf : mm_iast h a 2 i (vp_nar .char x) = some h') (hk : mm_wp mm_K Z mm_na 6 mm_ci J C Q is L r h') : mm_wp mm_K Z mm_na 6 mm_ci J C Q (.castore :: is) L (vI x :: vI i :: vR a :: r) h := mm_st rfl (by simp [mm_s1, hf]) hk
theorem mm_ist {a : Nat} {i x : Int32} (hf : mm_iast h a 0 i x = some h') (hk : mm_wp mm_K Z mm_na 6 mm_ci J C Q is L r h') : mm_wp mm_K Z mm_na 6 mm_ci J C Q (.iastore :: is) L (vI x :: vI i :: vR a :: r) h := mm_st rfl (by simp [mm_s1, hf]) hk
theorem mm_al {a : Nat} {n : Int32} (hf : mm_len h a = some n) (hk : mm_wp mm_K Z mm_na 6 mm_ci J C Q is L (vI n :: r) h) : mm_wp mm_K Z mm_na 6 mm_ci J C Q (.arraylength :: is) L (vR a :: r) h := mm_st rfl (by simp [mm_s1, hf]) hk
/-- a static call over the arguments vs -/
theorem mm_is {m : Nat} {vs : List mm_V} {P : mm_A → mm_H → Prop} (hn : mm_na m = vs.length) (hl : vs.length + r.length ≤ 12) (hG : mm_G Z d m vs h P) (hP : ∀ a h', P a h' → mm_Kt Q (mm_wp mm_K Z mm_na 6 mm_ci J (mm_C Z (d + 1)) Q is L) r a h') : mm_wp mm_K Z mm_na 6 mm_ci J (mm_C Z (d + 1)) Q (.invokestatic m :: is) L (vs.reverse ++ r) h := by
  have h1 : (vs.reverse ++ r).take (mm_na m) = vs.reverse := by rw [hn, ← List.length_reverse]; exact List.take_left
  have h2 : (vs.reverse ++ r).drop (mm_na m) = r := by rw [hn, ← List.length_reverse]; exact List.drop_left
  show mm_na m ≤ (vs.reverse ++ r).length ∧ (vs.reverse ++ r).length ≤ 12 ∧ mm_C Z (d + 1) m ((vs.reverse ++ r).take (mm_na m)).reverse h (mm_Kt Q (mm_wp mm_K Z mm_na 6 mm_ci J (mm_C Z (d + 1)) Q is L) ((vs.reverse ++ r).drop (mm_na m)))
  rw [h1, h2, List.reverse_reverse]
  exact ⟨by rw [hn]; simp, by simp; omega, mm_G_mono hG hP⟩
end MSW
