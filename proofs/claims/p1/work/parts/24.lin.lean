/-! STRAIGHT LINES: to the jump at a stretch's end, calls by the interpreter -/
def mm_lin (n d mi : Nat) : List Instr → mm_L → List mm_V → mm_H → Option (Nat × (mm_L × (List mm_V × mm_H)))
  | [], _, _, _ => none
  | i :: is, L, st, h => match i with
    | .goto t => some (t.toNat, L, st, h)
    | .goto_w t => some (t.toNat, L, st, h)
    | .invokestatic m => if mm_na m ≤ st.length ∧ st.length ≤ 12 then (match mm_run n d m (st.take (mm_na m)).reverse h with
      | some (.inl none, h') => mm_lin n d mi is L (st.drop (mm_na m)) h'
      | some (.inl (some v), h') => mm_lin n d mi is L (v :: st.drop (mm_na m)) h'
      | _ => none) else none
    | .invokevirtual m => if mm_na m ≤ st.length ∧ st.length ≤ 12 ∧ mm_rcvb h (st.take (mm_na m)).reverse (mm_ci m) = true then (match mm_run n d m (st.take (mm_na m)).reverse h with
      | some (.inl none, h') => mm_lin n d mi is L (st.drop (mm_na m)) h'
      | some (.inl (some v), h') => mm_lin n d mi is L (v :: st.drop (mm_na m)) h'
      | _ => none) else none
    | .if_icmp c t => (match st with
      | .inl y :: .inl x :: r => if mm_cmpb c x y = true then some (t.toNat, L, r, h) else mm_lin n d mi is L r h
      | _ => none)
    | .ifCond c t => (match st with
      | .inl x :: r => if mm_cmpb c x 0 = true then some (t.toNat, L, r, h) else mm_lin n d mi is L r h
      | _ => none)
    | .ifnull _ => none
    | .ifnonnull _ => none
    | .if_acmp _ _ => none
    | .lookupswitch _ _ => none
    | .putstatic _ => none
    | .invokespecial _ => none
    | .checkcast _ => none
    | .return_ => none
    | .ireturn => none
    | .freturn => none
    | .lreturn => none
    | .areturn => none
    | .fadd => none
    | .fsub => none
    | i => if mm_nz i st then (match mm_s1 mm_K (fun _ => []) i L st h with
      | some o => mm_lin n d mi is o.1 o.2.1 o.2.2
      | none => none) else none
set_option maxHeartbeats 4000000 in
theorem mm_lin_wp {Z : Nat → List Int32} {n d D mi : Nat} {J : Nat → mm_L → List mm_V → mm_H → Prop} {Q : mm_A → mm_H → Prop} {t : Nat} {L' : mm_L} {st' : List mm_V} {h' : mm_H} (hD : D = d + 7) (hJ : J t L' st' h') : ∀ (is : List Instr) (L : mm_L) (st : List mm_V) (h : mm_H), mm_lin n d mi is L st h = some (t, L', st', h') → mm_wp mm_K Z mm_na 6 mm_ci J (mm_C Z D) Q is L st h := by
  subst hD
  intro is
  induction is with
  | nil => intro L st h he; cases he
  | cons i is ih =>
    intro L st h he
    unfold mm_lin at he
    unfold mm_wp
    split at he
    · simp only [Option.some.injEq, Prod.mk.injEq] at he
      obtain ⟨rfl, rfl, rfl, rfl⟩ := he
      exact hJ
    · simp only [Option.some.injEq, Prod.mk.injEq] at he
      obtain ⟨rfl, rfl, rfl, rfl⟩ := he
      exact hJ
    · split at he
      · rename_i hc
        refine ⟨hc.1, hc.2, ?_⟩
        split at he
        · rename_i h2 hr
          exact mm_run_G (Z := Z) hr (ih _ _ _ he)
        · rename_i v h2 hr
          exact mm_run_G (Z := Z) hr (ih _ _ _ he)
        · cases he
      · cases he
    · split at he
      · rename_i hc
        refine ⟨hc.1, hc.2.1, mm_rcvb_of hc.2.2, ?_⟩
        split at he
        · rename_i h2 hr
          exact mm_run_G (Z := Z) hr (ih _ _ _ he)
        · rename_i v h2 hr
          exact mm_run_G (Z := Z) hr (ih _ _ _ he)
        · cases he
      · cases he
    · split at he
      · split at he
        · rename_i hc
          simp only [Option.some.injEq, Prod.mk.injEq] at he
          obtain ⟨rfl, rfl, rfl, rfl⟩ := he
          exact ⟨fun _ => hJ, fun z => absurd (mm_cmpb_iff.mp hc) z⟩
        · rename_i hc
          exact ⟨fun z => absurd (mm_cmpb_iff.mpr z) hc, fun _ => ih _ _ _ he⟩
      · cases he
    · split at he
      · split at he
        · rename_i hc
          simp only [Option.some.injEq, Prod.mk.injEq] at he
          obtain ⟨rfl, rfl, rfl, rfl⟩ := he
          exact ⟨fun _ => hJ, fun z => absurd (mm_cmpb_iff.mp hc) z⟩
        · rename_i hc
          exact ⟨fun z => absurd (mm_cmpb_iff.mpr z) hc, fun _ => ih _ _ _ he⟩
      · cases he
    all_goals first
      | (cases he; done)
      | skip
    · split at he
      · rename_i hnz
        rw [mm_s1_nz (Z' := Z) hnz] at he
        split at he
        · rename_i o ho
          split <;> first
            | (rw [ho]; exact ih _ _ _ he)
            | contradiction
        · cases he
      · cases he
/-- the heap at the law's start, and when both objects are made -/
def p1_0 : mm_H := ([], (600002, 7302232))
def p1_L0 : mm_L := mm_ent 7 [vZ 1]
def p1_r : Option (Nat × (mm_L × (List mm_V × mm_H))) := (mm_blk 167 0).bind fun is => mm_lin 400 5 167 is p1_L0 [] p1_0
def p1_h : mm_H := (p1_r.map fun r => r.2.2.2).getD p1_0
