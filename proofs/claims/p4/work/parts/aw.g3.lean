/-! STRAIGHT LINES: to the jump at a stretch's end, calls by the interpreter -/
def mm_lin (n d mi : Nat) : List Instr → mm_L → List mm_V → mm_H → Option (Nat × (mm_L × (List mm_V × mm_H)))
  | [], _, _, _ => none
  | i :: is, L, st, h => match i with
    | .goto t => some (t.toNat, L, st, h)
    | .goto_w t => some (t.toNat, L, st, h)
    | .invokestatic m => if mm_na m ≤ st.length ∧ st.length ≤ 12 then (match mm_run n d m (st.take (mm_na m)).reverse h with
      | some (.inl none, h') => mm_lin n d mi is L (st.drop (mm_na m)) h'
      | some (.inl (some v), h') => mm_lin n d mi is L (v :: st.drop (mm_na m)) h'
      | _ => none) else none
    | .invokevirtual m => if mm_na m ≤ st.length ∧ st.length ≤ 12 ∧ mm_rcvb h (st.take (mm_na m)).reverse (mm_ci m) = true then (match mm_run n d m (st.take (mm_na m)).reverse h with
      | some (.inl none, h') => mm_lin n d mi is L (st.drop (mm_na m)) h'
      | some (.inl (some v), h') => mm_lin n d mi is L (v :: st.drop (mm_na m)) h'
      | _ => none) else none
    | .if_icmp c t => (match st with
      | .inl y :: .inl x :: r => if mm_cmpb c x y = true then some (t.toNat, L, r, h) else mm_lin n d mi is L r h
      | _ => none)
    | .ifCond c t => (match st with
      | .inl x :: r => if mm_cmpb c x 0 = true then some (t.toNat, L, r, h) else mm_lin n d mi is L r h
      | _ => none)
    | .ifnull _ => none
    | .ifnonnull _ => none
    | .if_acmp _ _ => none
    | .lookupswitch _ _ => none
    | .putstatic _ => none
    | .invokespecial _ => none
    | .checkcast _ => none
    | .return_ => none
    | .ireturn => none
    | .freturn => none
    | .lreturn => none
    | .areturn => none
    | .fadd => none
    | .fsub => none
    | i => if mm_nz i st then (match mm_s1 mm_K (fun _ => []) i L st h with
      | some o => mm_lin n d mi is o.1 o.2.1 o.2.2
      | none => none) else none
set_option maxHeartbeats 4000000 in
theorem mm_lin_wp {Z : Nat → List Int32} {n d D mi : Nat} {J : Nat → mm_L → List mm_V → mm_H → Prop} {Q : mm_A → mm_H → Prop} {t : Nat} {L' : mm_L} {st' : List mm_V} {h' : mm_H} (hD : D = d + 7) (hJ : J t L' st' h') : ∀ (is : List Instr) (L : mm_L) (st : List mm_V) (h : mm_H), mm_lin n d mi is L st h = some (t, L', st', h') → mm_wp mm_K Z mm_na 6 mm_ci J (mm_C Z D) Q is L st h := by
  subst hD
  intro is
  induction is with
  | nil => intro L st h he; cases he
  | cons i is ih =>
    intro L st h he
    unfold mm_lin at he
    unfold mm_wp
    split at he
    · simp only [Option.some.injEq, Prod.mk.injEq] at he
      obtain ⟨rfl, rfl, rfl, rfl⟩ := he
      exact hJ
    · simp only [Option.some.injEq, Prod.mk.injEq] at he
      obtain ⟨rfl, rfl, rfl, rfl⟩ := he
      exact hJ
    · split at he
      · rename_i hc
        refine ⟨hc.1, hc.2, ?_⟩
        split at he
        · rename_i h2 hr
          exact mm_run_G (Z := Z) hr (ih _ _ _ he)
        · rename_i v h2 hr
          exact mm_run_G (Z := Z) hr (ih _ _ _ he)
        · cases he
      · cases he
    · split at he
      · rename_i hc
        refine ⟨hc.1, hc.2.1, mm_rcvb_of hc.2.2, ?_⟩
        split at he
        · rename_i h2 hr
          exact mm_run_G (Z := Z) hr (ih _ _ _ he)
        · rename_i v h2 hr
          exact mm_run_G (Z := Z) hr (ih _ _ _ he)
        · cases he
      · cases he
    · split at he
      · split at he
        · rename_i hc
          simp only [Option.some.injEq, Prod.mk.injEq] at he
          obtain ⟨rfl, rfl, rfl, rfl⟩ := he
          exact ⟨fun _ => hJ, fun z => absurd (mm_cmpb_iff.mp hc) z⟩
        · rename_i hc
          exact ⟨fun z => absurd (mm_cmpb_iff.mpr z) hc, fun _ => ih _ _ _ he⟩
      · cases he
    · split at he
      · split at he
        · rename_i hc
          simp only [Option.some.injEq, Prod.mk.injEq] at he
          obtain ⟨rfl, rfl, rfl, rfl⟩ := he
          exact ⟨fun _ => hJ, fun z => absurd (mm_cmpb_iff.mp hc) z⟩
        · rename_i hc
          exact ⟨fun z => absurd (mm_cmpb_iff.mpr z) hc, fun _ => ih _ _ _ he⟩
      · cases he
    all_goals first
      | (cases he; done)
      | skip
    · split at he
      · rename_i hnz
        rw [mm_s1_nz (Z' := Z) hnz] at he
        split at he
        · rename_i o ho
          split <;> first
            | (rw [ho]; exact ih _ _ _ he)
            | contradiction
        · cases he
      · cases he
/-- the heap at the law's start, and when both objects are made -/
def p1_0 : mm_H := ([], (601024, 7293034))
def p1_L0 : mm_L := mm_ent 7 [vZ 1]
def p1_r : Option (Nat × (mm_L × (List mm_V × mm_H))) := (mm_blk 166 0).bind fun is => mm_lin 400 293 166 is p1_L0 [] p1_0
def p1_h : mm_H := (p1_r.map fun r => r.2.2.2).getD p1_0
/-! BOTH OBJECTS ARE NEW -/
def g_L (i : Int32) (a b : Option mm_V) : mm_L := [some (vZ 1), some (vR 0), some (vR 25), some (vR 58), some (vI i), a, b]
def mm_eqL (a b : mm_L) : Bool := decide (a = b)
def mm_eqS (a b : List mm_V) : Bool := decide (a = b)
theorem mm_quad {o : Option (Nat × (mm_L × (List mm_V × mm_H)))} {t : Nat} {L : mm_L} {st : List mm_V} (h1 : o.map (fun r => r.1) = some t) (h2 : o.map (fun r => mm_eqL r.2.1 L) = some true) (h3 : o.map (fun r => mm_eqS r.2.2.1 st) = some true) : ∃ h, o = some (t, L, st, h) := by
  obtain _ | ⟨a, b, c, h⟩ := o
  · cases h1
  · simp only [Option.map_some, Option.some.injEq, mm_eqL, mm_eqS, decide_eq_true_eq] at h1 h2 h3
    subst h1 h2 h3
    exact ⟨h, rfl⟩
set_option maxRecDepth 100000 in
theorem g_m1 : p1_r.map (fun r => r.1) = some 23 := by decide +kernel
set_option maxRecDepth 100000 in
theorem g_m2 : p1_r.map (fun r => mm_eqL r.2.1 (g_L 0 none none)) = some true := by decide +kernel
set_option maxRecDepth 100000 in
theorem g_m3 : p1_r.map (fun r => mm_eqS r.2.2.1 []) = some true := by decide +kernel
theorem g_made : p1_r = some (23, g_L 0 none none, [], p1_h) := by
  obtain ⟨h, hh⟩ := mm_quad g_m1 g_m2 g_m3
  have : p1_h = h := by unfold p1_h; rw [hh]; rfl
  rw [hh, this]
def g_eqO (a b : mm_O) : Bool := match a, b with
  | .inl (c, f), .inl (c', f') => decide (c = c') && mm_eqS f f'
  | .inr (.inl (c, f)), .inr (.inl (c', f')) => decide (c = c') && decide (f = f')
  | .inr (.inr (.inl f)), .inr (.inr (.inl f')) => decide (f = f')
  | .inr (.inr (.inr (c, f))), .inr (.inr (.inr (c', f'))) => decide (c = c') && decide (f = f')
  | _, _ => false
theorem g_eqO_of {a b : mm_O} (h : g_eqO a b = true) : a = b := by
  unfold g_eqO at h
  split at h
  · simp only [Bool.and_eq_true, decide_eq_true_eq, mm_eqS] at h
    rw [h.1, h.2]
  · simp only [Bool.and_eq_true, decide_eq_true_eq] at h
    rw [h.1, h.2]
  · simp only [decide_eq_true_eq] at h
    rw [h]
  · simp only [Bool.and_eq_true, decide_eq_true_eq] at h
    rw [h.1, h.2]
  · cases h
def g_eqC : List mm_O → List mm_O → Bool
  | [], [] => true
  | a :: x, b :: y => g_eqO a b && g_eqC x y
  | _, _ => false
theorem g_eqC_of : ∀ {x y : List mm_O}, g_eqC x y = true → x = y
  | [], [], _ => rfl
  | a :: x, b :: y, h => by
    simp only [g_eqC, Bool.and_eq_true] at h
    rw [g_eqO_of h.1, g_eqC_of h.2]
  | [], _ :: _, h => by cases h
  | _ :: _, [], h => by cases h
/-- the reference's cells, and the row of one long -/
def g_X (R : nS) (o : List Int64) : Nat → mm_O := fun a => if a = 25 then .inl (10, (List.range 57).map (n_fv R.1)) else if a < 58 then n_cell R.2 a else if a = 58 then .inr (.inr (.inl o)) else .inr (.inl (0, []))
def g_rf (a k : Nat) : Option Nat := (c_rfs.find? fun p => p.1 == a && p.2.1 == k).map fun p => p.2.2
def g_tg (a : Nat) : Nat := (c_tgs.lookup a).getD 40
def g_ln (a : Nat) : Nat := (c_lns.lookup a).getD 0
def g_sq (q : Nat × Nat) : cS := (fun a k => if a = 0 ∧ k = 6 then -1 else 0, g_rf, g_tg, g_ln, 59, q)
theorem g_H2 {X : Nat → mm_O} {q : Nat × Nat} : (c_H X (g_sq q)).2 = q := rfl
theorem g_cq {q : Nat × Nat} : cq (g_sq q) = q := rfl
def g_s0 : cS := g_sq p1_h.2
def g_R0 : nS := (fun k => if k = 3 then -1 else 0, fun _ _ => 0)
set_option maxRecDepth 100000 in
theorem g_h1 : g_eqC p1_h.1 (c_H (g_X g_R0 [0]) g_s0).1 = true := by decide +kernel
theorem g_h : p1_h = c_H (g_X g_R0 [0]) g_s0 := Prod.ext (g_eqC_of g_h1) g_H2.symm
set_option maxRecDepth 100000 in
theorem g_q : (decide (160 * 512 ≤ p1_h.2.1) && decide (1700 * 512 ≤ p1_h.2.2) && decide (p1_h.2.1 ≤ 700000)) = true := by decide +kernel
