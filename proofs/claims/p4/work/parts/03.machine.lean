/-! THE SMALL MACHINE: what one side's methods (the class's, or the reference's) do, said over a row of cells that is this side's own.
A value: an int, a long, null or the place of a cell, or one of the constant arrays of the tables. A cell: an object (class number, fields), an array of ints, bytes or chars (0, 1, 2), a long array, an array of references.
A heap: the cells, and what is left of the claim's cells and slots. An answer: returned (a value or none), or thrown (the exception's number).
The steps are written with the constructors of Instr, their numbers resolved (mm_s1, mm_wp say which): jumps bear the place itself, fields (class, field), calls the method's number. -/
abbrev mm_V : Type := Int32 ⊕ (Int64 ⊕ (Option Nat ⊕ Nat))
abbrev mm_O : Type := (Nat × List mm_V) ⊕ ((Nat × List Int32) ⊕ (List Int64 ⊕ (Nat × List (Option Nat))))
abbrev mm_H : Type := List mm_O × (Nat × Nat)
abbrev mm_A : Type := Option mm_V ⊕ Nat
abbrev mm_L : Type := List (Option mm_V)
abbrev vI (x : Int32) : mm_V := .inl x
abbrev vJ (x : Int64) : mm_V := .inr (.inl x)
abbrev vQ (r : Option Nat) : mm_V := .inr (.inr (.inl r))
abbrev vN : mm_V := vQ none
abbrev vR (a : Nat) : mm_V := vQ (some a)
abbrev vZ (j : Nat) : mm_V := .inr (.inr (.inr j))
abbrev aV : mm_A := .inl none
abbrev aX (v : mm_V) : mm_A := .inl (some v)
abbrev aT (e : Nat) : mm_A := .inr e
/-- the class's constant array -/
def mm_step0 : List Int32 := [3, 2, 1, 1, 1, 1, 1, 3, 3, 1, 1, 2, 4, 2, 1]
/-- field k of the object of class ci at place a -/
def mm_fld (h : mm_H) (a ci k : Nat) : Option mm_V := match h.1[a]? with
  | some (.inl (c, fs)) => if c = ci then fs[k]? else none
  | _ => none
def mm_put (h : mm_H) (a ci k : Nat) (v : mm_V) : Option mm_H := match h.1[a]? with
  | some (.inl (c, fs)) => if c = ci ∧ k < fs.length then some (h.1.set a (.inl (c, fs.set k v)), h.2) else none
  | _ => none
def mm_int (h : mm_H) (a kd : Nat) : Option (List Int32) := match h.1[a]? with
  | some (.inr (.inl q)) => if q.1 = kd then some q.2 else none
  | _ => none
def mm_lng (h : mm_H) (a : Nat) : Option (List Int64) := match h.1[a]? with
  | some (.inr (.inr (.inl xs))) => some xs
  | _ => none
def mm_refs (h : mm_H) (a : Nat) : Option (Nat × List (Option Nat)) := match h.1[a]? with
  | some (.inr (.inr (.inr q))) => if q.1 < 2 then some q else none
  | _ => none
def mm_len (h : mm_H) (a : Nat) : Option Int32 := match h.1[a]? with
  | some (.inr (.inl q)) => if q.1 < 3 then some (Int32.ofNat q.2.length) else none
  | some (.inr (.inr (.inl xs))) => some (Int32.ofNat xs.length)
  | some (.inr (.inr (.inr q))) => if q.1 < 2 then some (Int32.ofNat q.2.length) else none
  | _ => none
/-- an index inside a row of n -/
def mm_ix (i : Int32) (n : Nat) : Option Nat := if i < 0 then none else if i.toNatClampNeg < n then some i.toNatClampNeg else none
def mm_iald (h : mm_H) (a kd : Nat) (i : Int32) : Option Int32 := (mm_int h a kd).bind fun xs => (mm_ix i xs.length).bind fun k => xs[k]?
def mm_zald (Z : Nat → List Int32) (j : Nat) (i : Int32) : Option Int32 := (mm_ix i (Z j).length).bind fun k => (Z j)[k]?
def mm_iast (h : mm_H) (a kd : Nat) (i x : Int32) : Option mm_H := (mm_int h a kd).bind fun xs => (mm_ix i xs.length).map fun k => (h.1.set a (.inr (.inl (kd, xs.set k x))), h.2)
def mm_lald (h : mm_H) (a : Nat) (i : Int32) : Option Int64 := (mm_lng h a).bind fun xs => (mm_ix i xs.length).bind fun k => xs[k]?
def mm_last (h : mm_H) (a : Nat) (i : Int32) (x : Int64) : Option mm_H := (mm_lng h a).bind fun xs => (mm_ix i xs.length).map fun k => (h.1.set a (.inr (.inr (.inl (xs.set k x)))), h.2)
def mm_aald (h : mm_H) (a : Nat) (i : Int32) : Option (Option Nat) := (mm_refs h a).bind fun q => (mm_ix i q.2.length).bind fun k => q.2[k]?
/-- what is stored is null, or an object of the row's own class -/
def mm_of (h : mm_H) (ci : Nat) (r : Option Nat) : Bool := match r with
  | none => true
  | some b => match h.1[b]? with
    | some (.inl (c, _)) => c == ci
    | _ => false
def mm_aast (h : mm_H) (a : Nat) (i : Int32) (r : Option Nat) : Option mm_H := (mm_refs h a).bind fun q => if mm_of h (mm_el q.1) r then (mm_ix i q.2.length).map fun k => (h.1.set a (.inr (.inr (.inr (q.1, q.2.set k r)))), h.2) else none
/-- a new cell of n slots -/
def mm_new (h : mm_H) (o : mm_O) (n : Nat) : Option mm_H := if 1 ≤ h.2.1 ∧ n ≤ h.2.2 then some (h.1 ++ [o], (h.2.1 - 1, h.2.2 - n)) else none
/-- the locals: a long lies in two places; nothing is laid over a long's second half -/
def mm_lj (o : Option (Option mm_V)) : Bool := match o with
  | some (some (.inr (.inl _))) => true
  | _ => false
def mm_set (L : mm_L) (k : Nat) (v : mm_V) : Option mm_L := if k < L.length then (if k ≠ 0 ∧ mm_lj L[k - 1]? = true then none else some (L.set k (some v))) else none
def mm_cmp (c : Jvm.ClassFile.Cond) (x y : Int32) : Prop := match c with
  | .eq => x = y
  | .ne => ¬ x = y
  | .lt => x < y
  | .ge => y ≤ x
  | .gt => y < x
  | .le => x ≤ y
/-- fields of a class: what they are at first, how many -/
def mm_fresh (tys : List FieldType) : List mm_V := tys.map fun t => match t with
  | .int => vI 0
  | .boolean => vI 0
  | .long => vJ 0
  | _ => vN
/-- ONE STEP that goes on with the next one -/
def mm_s1 (K : Nat → List FieldType) (Z : Nat → List Int32) (i : Instr) (L : mm_L) (st : List mm_V) (h : mm_H) : Option (mm_L × (List mm_V × mm_H)) := match i with
  | .sipush n => some (L, vI (Int32.ofInt n) :: st, h)
  | .lconst n => some (L, vJ (Int64.ofNat n.val) :: st, h)
  | .aconst_null => some (L, vN :: st, h)
  | .getstatic j => some (L, vZ j :: st, h)
  | .iload k => (match L[k]? with
    | some (some (.inl x)) => some (L, vI x :: st, h)
    | _ => none)
  | .lload k => (match L[k]? with
    | some (some (.inr (.inl x))) => some (L, vJ x :: st, h)
    | _ => none)
  | .aload k => (match L[k]? with
    | some (some (.inr (.inr (.inl r)))) => some (L, vQ r :: st, h)
    | some (some (.inr (.inr (.inr j)))) => some (L, vZ j :: st, h)
    | _ => none)
  | .istore k => (match st with
    | .inl x :: r => (mm_set L k (vI x)).map fun L' => (L', r, h)
    | _ => none)
  | .astore k => (match st with
    | .inr (.inr (.inl q)) :: r => (mm_set L k (vQ q)).map fun L' => (L', r, h)
    | _ => none)
  | .iinc k n => (match L[k]? with
    | some (some (.inl x)) => (mm_set L k (vI (x + Int32.ofInt n))).map fun L' => (L', st, h)
    | _ => none)
  | .invokeinterface ci k => (match st with
    | .inr (.inr (.inl (some a))) :: r => (mm_fld h a ci k).map fun v => (L, v :: r, h)
    | _ => none)
  | .multianewarray ci k => (match st with
    | v :: .inr (.inr (.inl (some a))) :: r => (match v, (K ci)[k]? with
      | .inl x, some .int => (mm_put h a ci k (vI x)).map fun h' => (L, r, h')
      | .inl x, some .boolean => if x = 0 ∨ x = 1 then (mm_put h a ci k (vI x)).map fun h' => (L, r, h') else none
      | .inr (.inr (.inl q)), some (.object _) => (mm_put h a ci k (vQ q)).map fun h' => (L, r, h')
      | .inr (.inr (.inl q)), some (.array _) => (mm_put h a ci k (vQ q)).map fun h' => (L, r, h')
      | _, _ => none)
    | _ => none)
  | .new ci => (mm_new h (.inl (ci, mm_fresh (K ci))) (K ci).length).map fun h' => (L, vR h.1.length :: st, h')
  | .newarray .int => (match st with
    | .inl n :: r => if n < 0 ∨ 134217728 < n.toNatClampNeg then none else (mm_new h (.inr (.inl (0, List.replicate n.toNatClampNeg 0))) n.toNatClampNeg).map fun h' => (L, vR h.1.length :: r, h')
    | _ => none)
  | .newarray .byte => (match st with
    | .inl n :: r => if n < 0 ∨ 134217728 < n.toNatClampNeg then none else (mm_new h (.inr (.inl (1, List.replicate n.toNatClampNeg 0))) n.toNatClampNeg).map fun h' => (L, vR h.1.length :: r, h')
    | _ => none)
  | .newarray .char => (match st with
    | .inl n :: r => if n < 0 ∨ 134217728 < n.toNatClampNeg then none else (mm_new h (.inr (.inl (2, List.replicate n.toNatClampNeg 0))) n.toNatClampNeg).map fun h' => (L, vR h.1.length :: r, h')
    | _ => none)
  | .newarray .long => (match st with
    | .inl n :: r => if n < 0 ∨ 67108864 < n.toNatClampNeg then none else (mm_new h (.inr (.inr (.inl (List.replicate n.toNatClampNeg 0)))) n.toNatClampNeg).map fun h' => (L, vR h.1.length :: r, h')
    | _ => none)
  | .anewarray ci => (match st with
    | .inl n :: r => if n < 0 ∨ 134217728 < n.toNatClampNeg then none else (mm_new h (.inr (.inr (.inr (ci, List.replicate n.toNatClampNeg none)))) n.toNatClampNeg).map fun h' => (L, vR h.1.length :: r, h')
    | _ => none)
  | .arraylength => (match st with
    | .inr (.inr (.inl (some a))) :: r => (mm_len h a).map fun n => (L, vI n :: r, h)
    | .inr (.inr (.inr j)) :: r => if j < 2 then some (L, vI (Int32.ofNat (Z j).length) :: r, h) else none
    | _ => none)
  | .iaload => (match st with
    | .inl i :: .inr (.inr (.inl (some a))) :: r => (mm_iald h a 0 i).map fun x => (L, vI x :: r, h)
    | .inl i :: .inr (.inr (.inr j)) :: r => if j < 2 then (mm_zald Z j i).map fun x => (L, vI x :: r, h) else none
    | _ => none)
  | .iastore => (match st with
    | .inl x :: .inl i :: .inr (.inr (.inl (some a))) :: r => (mm_iast h a 0 i x).map fun h' => (L, r, h')
    | _ => none)
  | .baload => (match st with
    | .inl i :: .inr (.inr (.inl (some a))) :: r => (mm_iald h a 1 i).map fun x => (L, vI x :: r, h)
    | _ => none)
  | .caload => (match st with
    | .inl i :: .inr (.inr (.inl (some a))) :: r => (mm_iald h a 2 i).map fun x => (L, vI x :: r, h)
    | _ => none)
  | .bastore => (match st with
    | .inl x :: .inl i :: .inr (.inr (.inl (some a))) :: r => (mm_iast h a 1 i (vp_nar .byte x)).map fun h' => (L, r, h')
    | _ => none)
  | .castore => (match st with
    | .inl x :: .inl i :: .inr (.inr (.inl (some a))) :: r => (mm_iast h a 2 i (vp_nar .char x)).map fun h' => (L, r, h')
    | _ => none)
  | .laload => (match st with
    | .inl i :: .inr (.inr (.inl (some a))) :: r => (mm_lald h a i).map fun x => (L, vJ x :: r, h)
    | _ => none)
  | .lastore => (match st with
    | .inr (.inl x) :: .inl i :: .inr (.inr (.inl (some a))) :: r => (mm_last h a i x).map fun h' => (L, r, h')
    | _ => none)
  | .aaload => (match st with
    | .inl i :: .inr (.inr (.inl (some a))) :: r => (mm_aald h a i).map fun q => (L, vQ q :: r, h)
    | _ => none)
  | .aastore => (match st with
    | .inr (.inr (.inl q)) :: .inl i :: .inr (.inr (.inl (some a))) :: r => (mm_aast h a i q).map fun h' => (L, r, h')
    | _ => none)
  | .pop => (match st with
    | .inl _ :: r => some (L, r, h)
    | .inr (.inr (.inl _)) :: r => some (L, r, h)
    | _ => none)
  | .dup => (match st with
    | .inl x :: r => some (L, vI x :: vI x :: r, h)
    | .inr (.inr (.inl q)) :: r => some (L, vQ q :: vQ q :: r, h)
    | _ => none)
  | .iadd => (match st with
    | .inl y :: .inl x :: r => some (L, vI (x + y) :: r, h)
    | _ => none)
  | .isub => (match st with
    | .inl y :: .inl x :: r => some (L, vI (x - y) :: r, h)
    | _ => none)
  | .imul => (match st with
    | .inl y :: .inl x :: r => some (L, vI (x * y) :: r, h)
    | _ => none)
  | .iand => (match st with
    | .inl y :: .inl x :: r => some (L, vI (x &&& y) :: r, h)
    | _ => none)
  | .ior => (match st with
    | .inl y :: .inl x :: r => some (L, vI (x ||| y) :: r, h)
    | _ => none)
  | .ishl => (match st with
    | .inl y :: .inl x :: r => some (L, vI (x <<< (y &&& 31)) :: r, h)
    | _ => none)
  | .ishr => (match st with
    | .inl y :: .inl x :: r => some (L, vI (x >>> (y &&& 31)) :: r, h)
    | _ => none)
  | .ineg => (match st with
    | .inl x :: r => some (L, vI (-x) :: r, h)
    | _ => none)
  | .i2s => (match st with
    | .inl x :: r => some (L, vI x.toInt16.toInt32 :: r, h)
    | _ => none)
  | .i2b => (match st with
    | .inl x :: r => some (L, vI x.toInt8.toInt32 :: r, h)
    | _ => none)
  | .i2c => (match st with
    | .inl x :: r => some (L, vI (x.toUInt32 % 65536).toInt32 :: r, h)
    | _ => none)
  | .i2l => (match st with
    | .inl x :: r => some (L, vJ x.toInt64 :: r, h)
    | _ => none)
  | .l2i => (match st with
    | .inr (.inl x) :: r => some (L, vI x.toInt32 :: r, h)
    | _ => none)
  | .lushr => (match st with
    | .inl y :: .inr (.inl x) :: r => some (L, vJ (x.toUInt64 >>> (y.toInt64.toUInt64 &&& Int64.toUInt64 63)).toInt64 :: r, h)
    | _ => none)
  | .lshl => (match st with
    | .inl y :: .inr (.inl x) :: r => some (L, vJ (x <<< (y.toInt64 &&& 63)) :: r, h)
    | _ => none)
  | .land => (match st with
    | .inr (.inl y) :: .inr (.inl x) :: r => some (L, vJ (x &&& y) :: r, h)
    | _ => none)
  | .lor => (match st with
    | .inr (.inl y) :: .inr (.inl x) :: r => some (L, vJ (x ||| y) :: r, h)
    | _ => none)
  | .lcmp => (match st with
    | .inr (.inl y) :: .inr (.inl x) :: r => some (L, vI (lg_cmp x y) :: r, h)
    | _ => none)
  | .jsr n => some (L, vJ (Int64.ofInt n) :: st, h)
  | _ => none
/-- behind a call: go on with what came back; an exception leaves this method too -/
def mm_Kt (Q : mm_A → mm_H → Prop) (F : List mm_V → mm_H → Prop) (rest : List mm_V) : mm_A → mm_H → Prop := fun r h => match r with
  | .inl none => F rest h
  | .inl (some v) => F (v :: rest) h
  | .inr e => Q (.inr e) h
def mm_sw (F : Nat → Prop) (d : Nat) (x : Int32) : List (Int × Int) → Prop
  | [] => F d
  | (k, t) :: ps => (x = Int32.ofInt k → F t.toNat) ∧ (¬ x = Int32.ofInt k → mm_sw F d x ps)
/-- the first argument is an object of the class -/
def mm_rcv (h : mm_H) (vs : List mm_V) (ci : Nat) : Prop := match vs with
  | .inr (.inr (.inl (some a))) :: _ => ∃ fs, h.1[a]? = some (.inl (ci, fs))
  | _ => False
/-- A STRETCH OF STEPS: J: what must hold at a place that is jumped to; C: what a call asks; Q: what must hold at the end.
goto_w t: no step, the place t comes next; checkcast e: the exception e is made and thrown (five steps); invokespecial 0: Object's constructor; freturn: ireturn of a boolean; fadd, fsub: Math.max, Math.min; putstatic m: a static call of a method with handlers -/
def mm_wp (K : Nat → List FieldType) (Z : Nat → List Int32) (nA : Nat → Nat) (nE : Nat) (mm_ci : Nat → Nat) (J : Nat → mm_L → List mm_V → mm_H → Prop) (C : Nat → List mm_V → mm_H → (mm_A → mm_H → Prop) → Prop) (Q : mm_A → mm_H → Prop) : List Instr → mm_L → List mm_V → mm_H → Prop
  | [], _, _, _ => False
  | i :: is, L, st, h => match i with
    | .goto t => J t.toNat L st h
    | .goto_w t => J t.toNat L st h
    | .if_icmp c t => (match st with
      | .inl y :: .inl x :: r => (mm_cmp c x y → J t.toNat L r h) ∧ (¬ mm_cmp c x y → mm_wp K Z nA nE mm_ci J C Q is L r h)
      | _ => False)
    | .ifCond c t => (match st with
      | .inl x :: r => (mm_cmp c x 0 → J t.toNat L r h) ∧ (¬ mm_cmp c x 0 → mm_wp K Z nA nE mm_ci J C Q is L r h)
      | _ => False)
    | .ifnull t => (match st with
      | .inr (.inr (.inl q)) :: r => (q = none → J t.toNat L r h) ∧ (¬ q = none → mm_wp K Z nA nE mm_ci J C Q is L r h)
      | _ => False)
    | .ifnonnull t => (match st with
      | .inr (.inr (.inl q)) :: r => (¬ q = none → J t.toNat L r h) ∧ (q = none → mm_wp K Z nA nE mm_ci J C Q is L r h)
      | _ => False)
    | .if_acmp .eq t => (match st with
      | .inr (.inr (.inl q)) :: .inr (.inr (.inl p)) :: r => (p = q → J t.toNat L r h) ∧ (¬ p = q → mm_wp K Z nA nE mm_ci J C Q is L r h)
      | _ => False)
    | .if_acmp .ne t => (match st with
      | .inr (.inr (.inl q)) :: .inr (.inr (.inl p)) :: r => (¬ p = q → J t.toNat L r h) ∧ (p = q → mm_wp K Z nA nE mm_ci J C Q is L r h)
      | _ => False)
    | .lookupswitch d ps => (match st with
      | .inl x :: r => mm_sw (fun t => J t L r h) d.toNat x ps.toList
      | _ => False)
    | .invokestatic m => nA m ≤ st.length ∧ st.length ≤ 12 ∧ C m (st.take (nA m)).reverse h (mm_Kt Q (mm_wp K Z nA nE mm_ci J C Q is L) (st.drop (nA m)))
    | .putstatic m => nA m ≤ st.length ∧ st.length ≤ 12 ∧ C m (st.take (nA m)).reverse h (mm_Kt Q (mm_wp K Z nA nE mm_ci J C Q is L) (st.drop (nA m)))
    | .invokevirtual m => nA m ≤ st.length ∧ st.length ≤ 12 ∧ mm_rcv h ((st.take (nA m)).reverse) (mm_ci m) ∧ C m (st.take (nA m)).reverse h (mm_Kt Q (mm_wp K Z nA nE mm_ci J C Q is L) (st.drop (nA m)))
    | .invokespecial _ => (match st with
      | .inr (.inr (.inl (some _))) :: r => r.length ≤ 12 ∧ mm_wp K Z nA nE mm_ci J C Q is L r h
      | _ => False)
    | .checkcast e => st.length ≤ 12 ∧ 1 ≤ h.2.1 ∧ nE ≤ h.2.2 ∧ Q (aT e) (h.1, (h.2.1 - 1, h.2.2 - nE))
    | .return_ => st = [] ∧ Q aV h
    | .ireturn => (match st with
      | [.inl x] => Q (aX (vI x)) h
      | _ => False)
    | .freturn => (match st with
      | [.inl x] => (x = 0 ∨ x = 1) ∧ Q (aX (vI x)) h
      | _ => False)
    | .lreturn => False
    | .areturn => (match st with
      | [.inr (.inr (.inl q))] => Q (aX (vQ q)) h
      | _ => False)
    | .fadd => (match st with
      | .inl y :: .inl x :: r => r.length ≤ 12 ∧ mm_wp K Z nA nE mm_ci J C Q is L (vI (if x < y then y else x) :: r) h
      | _ => False)
    | .fsub => (match st with
      | .inl y :: .inl x :: r => r.length ≤ 12 ∧ mm_wp K Z nA nE mm_ci J C Q is L (vI (if y < x then y else x) :: r) h
      | _ => False)
    | _ => (match mm_s1 K Z i L st h with
      | some o => mm_wp K Z nA nE mm_ci J C Q is o.1 o.2.1 o.2.2
      | none => False)
