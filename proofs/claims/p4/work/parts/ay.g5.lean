/-! THE LAW'S HELPERS -/
section G5
variable {Z : Nat → List Int32} {d n m : Nat} {s s' : cS} {R R' : nS} {w x : Int64} {i : Int32} {a b : Option mm_V}
section G5a
variable {J : Nat → mm_L → List mm_V → mm_H → Prop} {C : Nat → List mm_V → mm_H → (mm_A → mm_H → Prop) → Prop} {Q : mm_A → mm_H → Prop} {is : List Instr} {L : mm_L} {r : List mm_V} {h h' : mm_H}
theorem mm_lst {a : Nat} {i : Int32} {x : Int64} (hf : mm_last h a i x = some h') (hk : mm_wp mm_K Z mm_na 6 mm_ci J C Q is L r h') : mm_wp mm_K Z mm_na 6 mm_ci J C Q (.lastore :: is) L (vJ x :: vI i :: vR a :: r) h := mm_st rfl (by simp [mm_s1, hf]) hk
/-- a call on the object -/
theorem g_cv {vs : List cV} {P : cA → cS → Prop} (hs : c_ok s) (hn : mm_na m = vs.length + 1) (hl : vs.length + 1 + r.length ≤ 12) (hci : mm_ci m = 0) (hG : CG (g_X R [w]) Z d m (kQ (some 0) :: vs) s P) (K : ∀ r' s', P r' s' → mm_Kt Q (mm_wp mm_K Z mm_na 6 mm_ci J (mm_C Z (d + 1)) Q is L) r (kgA r') (c_H (g_X R [w]) s')) : mm_wp mm_K Z mm_na 6 mm_ci J (mm_C Z (d + 1)) Q (.invokevirtual m :: is) L ((vR 0 :: vs.map kg).reverse ++ r) (c_H (g_X R [w]) s) :=
  mm_iv (vs := vR 0 :: vs.map kg) (r := r) (by simp [hn]) (by simp; omega) (by rw [hci]; exact g_rc0 hs) hG (fun a h' ha => by
    obtain ⟨r', s', e1, e2, hp⟩ := ha
    rw [e1, e2]
    exact K r' s' hp)
/-- a call on the reference -/
theorem g_nv {vs : List nV} {P : nA → nS → Prop} (hs : c_ok s) (hf : g_fr s) (hn : mm_na m = vs.length + 1) (hl : vs.length + 1 + r.length ≤ 12) (hci : mm_ci m = 10) (hG : NG Z d m (xR 25 :: vs) R P) (K : ∀ r' R', P r' R' → mm_Kt Q (mm_wp mm_K Z mm_na 6 mm_ci J (mm_C Z (d + 1)) Q is L) r (ngA r') (c_H (g_X R' [w]) s)) : mm_wp mm_K Z mm_na 6 mm_ci J (mm_C Z (d + 1)) Q (.invokevirtual m :: is) L ((vR 25 :: vs.map ng).reverse ++ r) (c_H (g_X R [w]) s) :=
  mm_iv (vs := vR 25 :: vs.map ng) (r := r) (by simp [hn]) (by simp; omega) (by rw [hci]; exact g_rc25 hf) (g_NG hs hf hG) (fun a h' ha => by
    obtain ⟨r', R', e1, e2, hp⟩ := ha
    rw [e1, e2]
    exact K r' R' hp)
end G5a
theorem g_a0 (hs : c_ok s) {X : Nat → mm_O} {k : Nat} (hk : mm_ci k = 0) : ∃ fs, (c_H X s).1[0]? = some (.inl (mm_ci k, fs)) := ⟨_, by rw [hk]; exact c_obj (c_t hs (0, 0) (by decide)) (by decide)⟩
def g_PH (R : nS) (P : cA → cS → Prop) (r : mm_A) (h : mm_H) : Prop := (∃ k, r = aX (vI k)) ∧ ∃ r' s' w, P r' s' ∧ h = c_H (g_X R [w]) s'
set_option maxRecDepth 100000 in
theorem g_G167 {P : cA → cS → Prop} (hd : 5 ≤ d) (hs : c_ok s) (hG : CG (g_X R [x]) Z d 27 [kQ (some 0)] s P) (hP : ∀ r s', P r s' → ((∃ v, r = .inl (some (kI v))) ∨ ∃ e, r = .inr e ∧ e < 3) ∧ g_fr s') : mm_G Z (d + 1) 167 [vR 0, vR 58] (c_H (g_X R [x]) s) (g_PH R P) := by
  obtain ⟨fs, ha⟩ := g_a0 hs (X := g_X R [x]) nc27
  refine mm_G_of (by rw [nl167]; decide) ?_
  rw [nl167]
  refine mm_at_blk (L := [some (vR 0), some (vR 58), none]) nb167_0 (by omega) (Or.inr (by decide)) ?_
  refine mm_st rfl rfl ?_
  refine mm_st rfl rfl ?_
  refine mm_st rfl rfl ?_
  refine mm_catch3 (d := d) (mi := 167) (k := 27) (pc := 3) (idx := 7) (i0 := 394) (i1 := 395) (i2 := 396) (i4 := 397) (a := 0) (as := []) (rest := [vI (Int32.ofInt 0), vR 58]) (q := ("LispForge", mm_T0, 8)) (h0 := 11) (h1 := 14) (h2 := 17) (t0 := 13) (t1 := 15) (t2 := 17) (u0 := 391) (u1 := 392) (u2 := 393) (v0 := 489) (v1 := 570) (v2 := 831) (sl := 2) (n0 := 1) (n1 := 2) (n2 := 3) (s0 := 0) (e0 := 8) (G0 := fun r h => ∃ r' s', r = kgA r' ∧ h = c_H (g_X R [x]) s' ∧ P r' s') (by decide +kernel) (by decide +kernel) (by decide +kernel) (by decide +kernel) (by decide +kernel) (by decide +kernel) (by decide +kernel) (by decide +kernel) (by decide +kernel) rfl ha (by decide) hG (fun v h' hv => ?_) rfl (by decide) (by decide) (by decide) (by decide +kernel) (by decide +kernel) (by decide +kernel) (by decide +kernel) (by decide +kernel) (by decide +kernel) (fun e' h' hv => ?_) ⟨by decide +kernel, by decide +kernel, by decide +kernel⟩ ⟨by decide +kernel, by decide +kernel, by decide +kernel⟩ ⟨by decide +kernel, by decide +kernel, by decide +kernel⟩ (by decide +kernel) (by decide +kernel)
  · obtain ⟨r', s', e1, e2, hp⟩ := hv
    obtain ⟨hr, hf⟩ := hP r' s' hp
    rcases hr with ⟨y, ey⟩ | ⟨e, ee, -⟩
    · rw [ey] at e1
      have e1 : v = some (vI (Int32.ofInt y)) := Sum.inl.inj e1
      subst e1
      rw [e2]
      refine mm_at_blk nb167_6 (by omega) (Or.inr (by decide)) ?_
      refine mm_st rfl rfl ?_
      refine mm_lst (g_last hf) ?_
      refine mm_at_blk nb167_20 (by omega) (Or.inr (by decide)) ?_
      refine mm_st rfl rfl ?_
      exact ⟨⟨_, rfl⟩, r', s', _, hp, rfl⟩
    · rw [ee] at e1
      cases e1
  · obtain ⟨r', s', e1, e2, hp⟩ := hv
    obtain ⟨hr, hf⟩ := hP r' s' hp
    rcases hr with ⟨y, ey⟩ | ⟨e, ee, he⟩
    · rw [ey] at e1
      cases e1
    · rw [ee] at e1
      have e1 : e' = e := Sum.inr.inj e1
      exact ⟨by omega, fun x0 => ⟨⟨_, rfl⟩, r', s', x, hp, e2⟩⟩
set_option maxRecDepth 100000 in
theorem g_G168 {P : cA → cS → Prop} (hd : 5 ≤ d) (hs : c_ok s) (hG : CG (g_X R [x]) Z d 87 [kQ (some 0)] s P) (hP : ∀ r s', P r s' → ((∃ v, r = .inl (some (kI v))) ∨ r = .inr 2) ∧ g_fr s') : mm_G Z (d + 1) 168 [vR 0, vR 58] (c_H (g_X R [x]) s) (g_PH R P) := by
  obtain ⟨fs, ha⟩ := g_a0 hs (X := g_X R [x]) nc87
  refine mm_G_of (by rw [nl168]; decide) ?_
  rw [nl168]
  refine mm_at_blk (L := [some (vR 0), some (vR 58), none]) nb168_0 (by omega) (Or.inr (by decide)) ?_
  refine mm_st rfl rfl ?_
  refine mm_st rfl rfl ?_
  refine mm_st rfl rfl ?_
  refine mm_catchP (d := d) (mi := 168) (k := 87) (pc := 3) (idx := 19) (i0 := 853) (i1 := 854) (i2 := 855) (i4 := 856) (i5 := 393) (i6 := 831) (a := 0) (as := []) (rest := [vI (Int32.ofInt 0), vR 58]) (q := ("LispForge", mm_T0, 8)) (hp := 11) (ct := 17) (ex := 2) (sl := 2) (n := 1) (x0 := 1) (s0 := 0) (e0 := 8) (G0 := fun r h => ∃ r' s', r = kgA r' ∧ h = c_H (g_X R [x]) s' ∧ P r' s') (by decide +kernel) (by decide +kernel) (by decide +kernel) (by decide +kernel) (by decide +kernel) (by decide +kernel) (by decide +kernel) (by decide +kernel) (by decide +kernel) rfl ha (by decide) hG (fun v h' hv => ?_) rfl (by decide) (by decide) (by decide) (by decide +kernel) (by decide +kernel) (fun e' h' hv => ?_) (by decide +kernel) (by decide +kernel) (by decide) (by decide +kernel) (by decide +kernel) (by decide +kernel)
  · obtain ⟨r', s', e1, e2, hp⟩ := hv
    obtain ⟨hr, hf⟩ := hP r' s' hp
    rcases hr with ⟨y, ey⟩ | ee
    · rw [ey] at e1
      have e1 : v = some (vI (Int32.ofInt y)) := Sum.inl.inj e1
      subst e1
      rw [e2]
      refine mm_at_blk nb168_6 (by omega) (Or.inr (by decide)) ?_
      refine mm_st rfl rfl ?_
      refine mm_lst (g_last hf) ?_
      refine mm_at_blk nb168_14 (by omega) (Or.inr (by decide)) ?_
      refine mm_st rfl rfl ?_
      exact ⟨⟨_, rfl⟩, r', s', _, hp, rfl⟩
    · rw [ee] at e1
      cases e1
  · obtain ⟨r', s', e1, e2, hp⟩ := hv
    obtain ⟨hr, hf⟩ := hP r' s' hp
    rcases hr with ⟨y, ey⟩ | ee
    · rw [ey] at e1
      cases e1
    · rw [ee] at e1
      exact ⟨Sum.inr.inj e1, ⟨_, rfl⟩, r', s', x, hp, e2⟩
set_option maxRecDepth 100000 in
theorem g_G169 {P : cA → cS → Prop} {y0 : Int} (hd : 5 ≤ d) (hs : c_ok s) (hG : CG (g_X R [x]) Z d 97 [kQ (some 0), kI y0] s P) (hP : ∀ r s', P r s' → ((∃ v, r = .inl (some (kI v))) ∨ r = .inr 0) ∧ g_fr s') : mm_G Z (d + 1) 169 [vR 0, vI (Int32.ofInt y0), vR 58] (c_H (g_X R [x]) s) (g_PH R P) := by
  obtain ⟨fs, ha⟩ := g_a0 hs (X := g_X R [x]) nc97
  refine mm_G_of (by rw [nl169]; exact Nat.le_of_ble_eq_true rfl) ?_
  rw [nl169]
  refine mm_at_blk (L := [some (vR 0), some (vI (Int32.ofInt y0)), some (vR 58), none]) nb169_0 (by omega) (Or.inr (by decide)) ?_
  refine mm_st rfl rfl ?_
  refine mm_st rfl rfl ?_
  refine mm_st rfl rfl ?_
  refine mm_st rfl rfl ?_
  refine mm_catchP (d := d) (mi := 169) (k := 97) (pc := 4) (idx := 22) (i0 := 903) (i1 := 904) (i2 := 905) (i4 := 906) (i5 := 391) (i6 := 489) (a := 0) (as := [vI (Int32.ofInt y0)]) (rest := [vI (Int32.ofInt 0), vR 58]) (q := ("LispForge", mm_T0, 8)) (hp := 12) (ct := 13) (ex := 0) (sl := 3) (n := 1) (x0 := 1) (s0 := 0) (e0 := 9) (G0 := fun r h => ∃ r' s', r = kgA r' ∧ h = c_H (g_X R [x]) s' ∧ P r' s') (by decide +kernel) (by decide +kernel) (by decide +kernel) (by decide +kernel) (by decide +kernel) (by decide +kernel) (by decide +kernel) (by decide +kernel) (show mm_pars 97 = some 1 by decide +kernel) rfl ha (by decide) hG (fun v h' hv => ?_) rfl (by decide) (by decide) (by decide) (by decide +kernel) (by decide +kernel) (fun e' h' hv => ?_) (by decide +kernel) (by decide +kernel) (by decide) (by decide +kernel) (by decide +kernel) (by decide +kernel)
  · obtain ⟨r', s', e1, e2, hp⟩ := hv
    obtain ⟨hr, hf⟩ := hP r' s' hp
    rcases hr with ⟨y, ey⟩ | ee
    · rw [ey] at e1
      have e1 : v = some (vI (Int32.ofInt y)) := Sum.inl.inj e1
      subst e1
      rw [e2]
      refine mm_at_blk nb169_7 (by omega) (Or.inr (by decide)) ?_
      refine mm_st rfl rfl ?_
      refine mm_lst (g_last hf) ?_
      refine mm_at_blk nb169_15 (by omega) (Or.inr (by decide)) ?_
      refine mm_st rfl rfl ?_
      exact ⟨⟨_, rfl⟩, r', s', _, hp, rfl⟩
    · rw [ee] at e1
      cases e1
  · obtain ⟨r', s', e1, e2, hp⟩ := hv
    obtain ⟨hr, hf⟩ := hP r' s' hp
    rcases hr with ⟨y, ey⟩ | ee
    · rw [ey] at e1
      cases e1
    · rw [ee] at e1
      exact ⟨Sum.inr.inj e1, ⟨_, rfl⟩, r', s', x, hp, e2⟩
end G5
