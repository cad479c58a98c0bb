/-! AN INTERPRETER of the small machine: what it comes to is what the real machine comes to -/
/-- the step reads no constant array -/
def mm_nz (i : Instr) (st : List mm_V) : Bool := match i with
  | .arraylength => (match st with
    | .inr (.inr (.inr _)) :: _ => false
    | _ => true)
  | .iaload => (match st with
    | _ :: .inr (.inr (.inr _)) :: _ => false
    | _ => true)
  | _ => true
theorem mm_s1_nz {K : Nat → List FieldType} {Z Z' : Nat → List Int32} {i : Instr} {L : mm_L} {st : List mm_V} {h : mm_H} (hn : mm_nz i st = true) : mm_s1 K Z i L st h = mm_s1 K Z' i L st h := by
  cases i <;> first
    | rfl
    | (rename_i t; cases t <;> rfl)
    | (obtain _ | ⟨x | x | (_ | a) | j, _ | ⟨y | y | (_ | b) | j2, r⟩⟩ := st <;> first | rfl | (simp [mm_nz] at hn))
def mm_swv (d : Nat) (x : Int32) : List (Int × Int) → Nat
  | [] => d
  | (k, t) :: ps => if x = Int32.ofInt k then t.toNat else mm_swv d x ps
theorem mm_swv_of {F : Nat → Prop} {d : Nat} {x : Int32} : ∀ {ps : List (Int × Int)}, F (mm_swv d x ps) → mm_sw F d x ps
  | [], h => h
  | (k, t) :: ps, h => by
    unfold mm_swv at h
    refine ⟨fun z => ?_, fun z => ?_⟩
    · rw [if_pos z] at h; exact h
    · rw [if_neg z] at h; exact mm_swv_of h
def mm_cmpb (c : Jvm.ClassFile.Cond) (x y : Int32) : Bool := match c with
  | .eq => decide (x = y)
  | .ne => !decide (x = y)
  | .lt => decide (x < y)
  | .ge => decide (y ≤ x)
  | .gt => decide (y < x)
  | .le => decide (x ≤ y)
theorem mm_cmpb_iff {c : Jvm.ClassFile.Cond} {x y : Int32} : mm_cmpb c x y = true ↔ mm_cmp c x y := by
  cases c <;> simp [mm_cmpb, mm_cmp]
def mm_rcvb (h : mm_H) (vs : List mm_V) (ci : Nat) : Bool := match vs with
  | .inr (.inr (.inl (some a))) :: _ => (match h.1[a]? with
    | some (.inl (c, _)) => c == ci
    | _ => false)
  | _ => false
theorem mm_rcvb_of {h : mm_H} {vs : List mm_V} {ci : Nat} (hb : mm_rcvb h vs ci = true) : mm_rcv h vs ci := by
  unfold mm_rcvb at hb
  unfold mm_rcv
  split at hb
  · rename_i a r
    split at hb
    · rename_i c fs hc
      exact ⟨fs, by rw [hc, beq_iff_eq.mp hb]⟩
    · cases hb
  · cases hb
abbrev mm_EV : Type := Nat → Nat → List Instr → mm_L → List mm_V → mm_H → Option (mm_A × mm_H)
def mm_evJ (ev : mm_EV) (d mi t : Nat) (L : mm_L) (st : List mm_V) (h : mm_H) : Option (mm_A × mm_H) := (mm_blk mi t).bind fun is' => ev d mi is' L st h
def mm_evC (ev : mm_EV) (d mi : Nat) (is : List Instr) (L : mm_L) (st : List mm_V) (h : mm_H) (m : Nat) : Option (mm_A × mm_H) := match d with
  | 0 => none
  | d' + 1 => if mm_na m ≤ st.length ∧ st.length ≤ 12 ∧ mm_hd m = [] ∧ (mm_argsL (st.take (mm_na m)).reverse).length ≤ mm_ml m then (mm_blk m 0).bind fun is' => (ev d' m is' (mm_ent (mm_ml m) (st.take (mm_na m)).reverse) [] h).bind fun r => match r.1 with
    | .inl none => ev (d' + 1) mi is L (st.drop (mm_na m)) r.2
    | .inl (some v) => ev (d' + 1) mi is L (v :: st.drop (mm_na m)) r.2
    | .inr e => some (.inr e, r.2)
    else none
/-- n: how many steps at most; d: how many calls deep at most -/
def mm_ev : Nat → mm_EV
  | 0, _, _, _, _, _, _ => none
  | _ + 1, _, _, [], _, _, _ => none
  | n + 1, d, mi, i :: is, L, st, h =>
    match i with
    | .goto t => mm_evJ (mm_ev n) d mi t.toNat L st h
    | .goto_w t => mm_evJ (mm_ev n) d mi t.toNat L st h
    | .if_icmp c t => (match st with
      | .inl y :: .inl x :: r => if mm_cmpb c x y = true then mm_evJ (mm_ev n) d mi t.toNat L r h else mm_ev n d mi is L r h
      | _ => none)
    | .ifCond c t => (match st with
      | .inl x :: r => if mm_cmpb c x 0 = true then mm_evJ (mm_ev n) d mi t.toNat L r h else mm_ev n d mi is L r h
      | _ => none)
    | .ifnull t => (match st with
      | .inr (.inr (.inl q)) :: r => if q = none then mm_evJ (mm_ev n) d mi t.toNat L r h else mm_ev n d mi is L r h
      | _ => none)
    | .ifnonnull t => (match st with
      | .inr (.inr (.inl q)) :: r => if ¬ q = none then mm_evJ (mm_ev n) d mi t.toNat L r h else mm_ev n d mi is L r h
      | _ => none)
    | .if_acmp .eq t => (match st with
      | .inr (.inr (.inl q)) :: .inr (.inr (.inl p)) :: r => if p = q then mm_evJ (mm_ev n) d mi t.toNat L r h else mm_ev n d mi is L r h
      | _ => none)
    | .if_acmp .ne t => (match st with
      | .inr (.inr (.inl q)) :: .inr (.inr (.inl p)) :: r => if ¬ p = q then mm_evJ (mm_ev n) d mi t.toNat L r h else mm_ev n d mi is L r h
      | _ => none)
    | .lookupswitch df ps => (match st with
      | .inl x :: r => mm_evJ (mm_ev n) d mi (mm_swv df.toNat x ps.toList) L r h
      | _ => none)
    | .invokestatic m => mm_evC (mm_ev n) d mi is L st h m
    | .putstatic _ => none
    | .invokevirtual m => if mm_rcvb h (st.take (mm_na m)).reverse (mm_ci m) then mm_evC (mm_ev n) d mi is L st h m else none
    | .invokespecial _ => (match st with
      | .inr (.inr (.inl (some _))) :: r => if r.length ≤ 12 then mm_ev n d mi is L r h else none
      | _ => none)
    | .checkcast e => if st.length ≤ 12 ∧ 1 ≤ h.2.1 ∧ 6 ≤ h.2.2 then some (aT e, (h.1, (h.2.1 - 1, h.2.2 - 6))) else none
    | .return_ => (match st with
      | [] => some (aV, h)
      | _ => none)
    | .ireturn => (match st with
      | [.inl x] => some (aX (vI x), h)
      | _ => none)
    | .freturn => (match st with
      | [.inl x] => if x = 0 ∨ x = 1 then some (aX (vI x), h) else none
      | _ => none)
    | .lreturn => none
    | .areturn => (match st with
      | [.inr (.inr (.inl q))] => some (aX (vQ q), h)
      | _ => none)
    | .fadd => (match st with
      | .inl y :: .inl x :: r => if r.length ≤ 12 then mm_ev n d mi is L (vI (if x < y then y else x) :: r) h else none
      | _ => none)
    | .fsub => (match st with
      | .inl y :: .inl x :: r => if r.length ≤ 12 then mm_ev n d mi is L (vI (if y < x then y else x) :: r) h else none
      | _ => none)
    | i => if mm_nz i st then (match mm_s1 mm_K (fun _ => []) i L st h with
      | some o => mm_ev n d mi is o.1 o.2.1 o.2.2
      | none => none) else none
