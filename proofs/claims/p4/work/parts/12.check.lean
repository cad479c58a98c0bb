def mm_cil : List Nat := [0, 1, 99, 6, 8, 2, 4, 5, 0, 0, 1, 1, 0, 0, 8, 1, 1, 0, 8, 0, 0, 0, 5, 0, 0, 5, 0, 0, 6, 6, 6, 6, 6, 6, 3, 0, 6, 3, 6, 3, 6, 6, 6, 1, 2, 3, 2, 2, 2, 2, 2, 9, 2, 2, 2, 2, 2, 7, 2, 8, 2, 2, 7, 2, 2, 2, 2, 2, 2, 2, 2, 1, 2, 2, 2, 2, 2, 2, 1, 1, 99, 99, 2, 1, 1, 8, 8, 0, 4, 4, 4, 4, 4, 4, 1, 4, 4, 0, 5, 5, 5, 5, 5, 5, 5, 5, 5, 5, 10, 10, 10, 10, 10, 10, 10, 10, 10, 10, 10, 10, 10, 10, 10, 10, 10, 10, 10, 10, 10, 10, 10, 10, 10, 10, 10, 10, 10, 10, 10, 10, 10, 10, 10, 10, 10, 10, 10, 10, 10, 10, 10, 10, 10, 10, 10, 10, 10, 10, 10, 10, 10, 10, 10, 10, 10, 10, 99, 99, 99, 99]
def mm_ci (m : Nat) : Nat := mm_cil.getD m 99
/-- the word w stands at the place i of the table, and goes with it from frame to frame -/
def mm_wq (i : Nat) (w : Jvm.Cond) : Bool := decide (lw_tbl[i]? = some w) && mm_gd w
theorem mm_wq_of {i : Nat} {w : Jvm.Cond} (h : mm_wq i w = true) : w ∈ lw_tbl ∧ mm_gd w = true := by
  simp only [mm_wq, Bool.and_eq_true, decide_eq_true_eq] at h
  exact ⟨List.mem_of_getElem? h.1, h.2⟩
theorem mm_wq_before {Z : Nat → List Int32} {i : Nat} {w : Jvm.Cond} {s : State} {D : va_G} {cT : Nat → ClassId} {zt : Nat → Nat} {A : Nat → Prop} {args : Array Value} (h : mm_wq i w = true) (hT : mm_T Z s D cT zt A) : w.before args s = true := by
  obtain ⟨h1, h2⟩ := mm_wq_of h
  exact mm_gd_args h2 (hT.1 w h1 h2)
def mm_own (mi : Nat) : String := (mm_nm mi).cls
def mm_codeW (m : Nat) : Jvm.Cond := .code (mm_nm m) (mm_cd m) (mm_ml m) (mm_rt m)
def mm_pars (m : Nat) : Option Nat := (parseMethodDescriptor (mm_nm m).desc).map fun d => d.parameters.length
/-- the real instruction o, of len bytes at pc of the method mi, is the small machine's step i; hs: where its words stand -/
def mm_res (mi pc : Nat) (o : Instr) (len : Nat) (i : Instr) (hs : List Nat) : Bool := match i with
  | .sipush n => (match o with
    | .iconst k => decide (len = 1) && decide (Int32.ofInt k = Int32.ofInt n)
    | .bipush k => decide (len = 2) && decide ((Int8.ofInt k).toInt32 = Int32.ofInt n)
    | .sipush k => decide (len = 3) && decide ((Int16.ofInt k).toInt32 = Int32.ofInt n)
    | .ldc x => decide (len = 2) && mm_wq (hs.getD 0 0) (.constant (mm_own mi) x (Int32.ofInt n))
    | .ldc_w x => decide (len = 3) && mm_wq (hs.getD 0 0) (.constant (mm_own mi) x (Int32.ofInt n))
    | _ => false)
  | .jsr n => (match o with
    | .ldc2_w x => decide (len = 3) && mm_wq (hs.getD 0 0) (.constantLong (mm_own mi) x (Int64.ofInt n))
    | _ => false)
  | .getstatic j => (match o with
    | .getstatic x => decide (len = 3) && decide (j = 0) && mm_wq (hs.getD 0 0) (.fieldLinkNest (mm_own mi) x "LispForge" "STEP_LENGTHS" "[I" "LispForge")
    | _ => false)
  | .iload k => (match o with
    | .iload j => decide (len = 2) && decide (j = k)
    | .iload_n j => decide (len = 1) && decide (j.val = k)
    | _ => false)
  | .lload k => (match o with
    | .lload j => decide (len = 2) && decide (j = k)
    | .lload_n j => decide (len = 1) && decide (j.val = k)
    | _ => false)
  | .aload k => (match o with
    | .aload j => decide (len = 2) && decide (j = k)
    | .aload_n j => decide (len = 1) && decide (j.val = k)
    | _ => false)
  | .istore k => (match o with
    | .istore j => decide (len = 2) && decide (j = k)
    | .istore_n j => decide (len = 1) && decide (j.val = k)
    | _ => false)
  | .astore k => (match o with
    | .astore j => decide (len = 2) && decide (j = k)
    | .astore_n j => decide (len = 1) && decide (j.val = k)
    | _ => false)
  | .iinc k n => decide (o = .iinc k n) && decide (len = 3)
  | .invokeinterface ci k => (match o, vwCl[ci]? with
    | .getfield x, some q => decide (len = 3) && decide (k < q.2.2) && (mm_wq (hs.getD 0 0) (.fieldLink (mm_own mi) x (q.2.1 k).1 (q.2.1 k).2.1 (q.2.1 k).2.2.1) || mm_wq (hs.getD 0 0) (.fieldLinkNest (mm_own mi) x (q.2.1 k).1 (q.2.1 k).2.1 (q.2.1 k).2.2.1 "LispForge"))
    | _, _ => false)
  | .multianewarray ci k => (match o, vwCl[ci]? with
    | .putfield x, some q => decide (len = 3) && decide (k < q.2.2) && ((mm_wq (hs.getD 0 0) (.fieldLink (mm_own mi) x (q.2.1 k).1 (q.2.1 k).2.1 (q.2.1 k).2.2.1) && (decide ((q.2.1 k).2.2.2 = false) || (decide ((q.2.1 k).2.2.2 = true) && decide ((mm_nm mi).name = "<init>") && decide ((q.2.1 k).1 = mm_own mi)))) || (mm_wq (hs.getD 0 0) (.fieldLinkNest (mm_own mi) x (q.2.1 k).1 (q.2.1 k).2.1 (q.2.1 k).2.2.1 "LispForge") && decide ((q.2.1 k).2.2.2 = false)))
    | _, _ => false)
  | .new ci => (match o, vwCl[ci]? with
    | .new x, some q => decide (len = 3) && mm_wq (hs.getD 0 0) (.classLink (mm_own mi) x q.1) && mm_wq (hs.getD 1 0) (.instantiable q.1 q.2.2) && mm_wq (hs.getD 2 0) (.initialized q.1) && decide ((List.range q.2.2).all (fun j => match (mm_K ci).getD j .int with | .int => true | .boolean => true | .long => true | .object _ => true | .array _ => true | _ => false) = true)
    | _, _ => false)
  | .newarray .int => decide (o = .newarray .int) && decide (len = 2) && mm_wq (hs.getD 0 0) (.arrayClass .int)
  | .newarray .byte => decide (o = .newarray .byte) && decide (len = 2) && mm_wq (hs.getD 0 0) (.arrayClass .byte)
  | .newarray .char => decide (o = .newarray .char) && decide (len = 2) && mm_wq (hs.getD 0 0) (.arrayClass .char)
  | .newarray .long => decide (o = .newarray .long) && decide (len = 2) && mm_wq (hs.getD 0 0) (.arrayClass .long)
  | .anewarray j => (match o with
    | .anewarray x => decide (len = 3) && decide (j < 2) && mm_wq (hs.getD 0 0) (.classLink (mm_own mi) x (if j = 0 then "LispForge$Form" else "LispForge$Unit"))
    | _ => false)
  | .invokestatic m => (match o with
    | .invokestatic x => decide (len = 3) && (mm_wq (hs.getD 0 0) (.methodLink (mm_own mi) x (mm_nm m)) || mm_wq (hs.getD 0 0) (.methodLinkNest (mm_own mi) x (mm_nm m) "LispForge")) && mm_wq (hs.getD 1 0) (.static (mm_nm m)) && mm_wq (hs.getD 2 0) (.initialized (mm_nm m).cls) && mm_wq (hs.getD 3 0) (mm_codeW m) && mm_yok (mm_nm m) && decide (mm_ml m ≤ 20) && decide (mm_pars m = some (mm_na m)) && decide (mm_hd m = [])
    | _ => false)
  | .putstatic m => (match o with
    | .invokestatic x => decide (len = 3) && mm_wq (hs.getD 0 0) (.methodLink (mm_own mi) x (mm_nm m)) && mm_wq (hs.getD 1 0) (.static (mm_nm m)) && mm_wq (hs.getD 2 0) (.initialized (mm_nm m).cls) && mm_wq (hs.getD 3 0) (.codeWith (mm_nm m) (mm_cd m) (mm_ml m) (mm_rt m) (mm_hd m)) && mm_yok (mm_nm m) && decide (mm_ml m ≤ 20) && decide (mm_pars m = some (mm_na m))
    | _ => false)
  | .invokevirtual m => (match o, vwCl[mm_ci m]? with
    | .invokespecial x, some _ => decide (len = 3) && (mm_wq (hs.getD 0 0) (.methodLink (mm_own mi) x (mm_nm m)) || mm_wq (hs.getD 0 0) (.methodLinkNest (mm_own mi) x (mm_nm m) "LispForge")) && mm_wq (hs.getD 1 0) (.instanceMethod (mm_nm m)) && mm_wq (hs.getD 3 0) (mm_codeW m) && mm_yok (mm_nm m) && decide (mm_ml m ≤ 20) && decide ((mm_nm m).name = "<init>") && decide (mm_rt m = none) && decide ((mm_pars m).map (· + 1) = some (mm_na m)) && decide (mm_hd m = [])
    | .invokevirtual x, some q => decide (len = 3) && mm_wq (hs.getD 0 0) (.methodLink (mm_own mi) x (mm_nm m)) && mm_wq (hs.getD 1 0) (.instanceMethod (mm_nm m)) && mm_wq (hs.getD 2 0) (.selects q.1 (mm_nm m) (mm_nm m)) && mm_wq (hs.getD 4 0) (mm_codeW m) && mm_yok (mm_nm m) && decide (mm_ml m ≤ 20) && decide ((mm_pars m).map (· + 1) = some (mm_na m)) && decide (mm_hd m = [])
    | _, _ => false)
  | .invokespecial _ => (match o with
    | .invokespecial x => decide (len = 3) && mm_wq (hs.getD 0 0) (.methodLink (mm_own mi) x Lib.objectInit) && mm_wq (hs.getD 1 0) (.instanceMethod Lib.objectInit) && mm_wq (hs.getD 2 0) (.code Lib.objectInit ⟨#[0xb1]⟩ 1 none)
    | _ => false)
  | .fadd => (match o with
    | .invokestatic x => decide (len = 3) && mm_wq (hs.getD 0 0) (.methodLink (mm_own mi) x Lib.Math.max.name) && mm_wq (hs.getD 1 0) (.static Lib.Math.max.name) && mm_wq (hs.getD 2 0) (.initialized "java/lang/Math") && mm_wq (hs.getD 3 0) (.code Lib.Math.max.name Lib.Math.max.code 2 (some .int))
    | _ => false)
  | .fsub => (match o with
    | .invokestatic x => decide (len = 3) && mm_wq (hs.getD 0 0) (.methodLink (mm_own mi) x Lib.Math.min.name) && mm_wq (hs.getD 1 0) (.static Lib.Math.min.name) && mm_wq (hs.getD 2 0) (.initialized "java/lang/Math") && mm_wq (hs.getD 3 0) (.code Lib.Math.min.name Lib.Math.min.code 2 (some .int))
    | _ => false)
  | .goto t => (match o with
    | .goto off => decide (len = 3) && decide ((pc : Int) + off = (t.toNat : Int))
    | _ => false)
  | .if_icmp cd t => (match o with
    | .if_icmp ce off => decide (len = 3) && decide (ce = cd) && decide ((pc : Int) + off = (t.toNat : Int))
    | _ => false)
  | .ifCond cd t => (match o with
    | .ifCond ce off => decide (len = 3) && decide (ce = cd) && decide ((pc : Int) + off = (t.toNat : Int))
    | _ => false)
  | .if_acmp cd t => (match o with
    | .if_acmp ce off => decide (len = 3) && decide (ce = cd) && decide ((pc : Int) + off = (t.toNat : Int))
    | _ => false)
  | .ifnull t => (match o with
    | .ifnull off => decide (len = 3) && decide ((pc : Int) + off = (t.toNat : Int))
    | _ => false)
  | .ifnonnull t => (match o with
    | .ifnonnull off => decide (len = 3) && decide ((pc : Int) + off = (t.toNat : Int))
    | _ => false)
  | .lookupswitch d ps => (match o with
    | .lookupswitch d0 qs => decide ((pc : Int) + d0 = (d.toNat : Int)) && decide (((qs.toList.zip (qs.toList.drop 1)).all fun (a, next) => a.1 < next.1) = true) && decide (ps.toList = qs.toList.map fun q => (q.1, (pc : Int) + q.2)) && qs.toList.all (fun q => decide (0 ≤ (pc : Int) + q.2 ∧ -2147483648 ≤ q.1 ∧ q.1 ≤ 2147483647))
    | .tableswitch d0 lo hi offs => decide ((pc : Int) + d0 = (d.toNat : Int)) && decide (ps.toList = (List.range offs.size).map fun (j : Nat) => (lo + (j : Int), (pc : Int) + offs.toList.getD j 0)) && decide (hi - lo + 1 = (offs.size : Int)) && offs.toList.all (fun q => decide (0 ≤ (pc : Int) + q)) && decide (-2147483648 ≤ lo ∧ hi ≤ 2147483647)
    | _ => false)
  | .return_ => decide (o = .return_) && decide (len = 1) && decide (mm_rt mi = none)
  | .ireturn => decide (o = .ireturn) && decide (len = 1) && decide (mm_rt mi = some .int)
  | .freturn => decide (o = .ireturn) && decide (len = 1) && decide (mm_rt mi = some .boolean)
  | .areturn => decide (o = .areturn) && decide (len = 1) && (match mm_rt mi with
    | some (.object _) => true
    | some (.array _) => true
    | _ => false)
  | i => decide (o = i) && decide (len = 1)
/-- no call, no throw -/
def mm_nc (i : Instr) : Bool := match i with
  | .invokestatic _ => false
  | .putstatic _ => false
  | .invokevirtual _ => false
  | .checkcast _ => false
  | _ => true
/-- where an exception's constructor is linked: (class, exception, its pool number) -/
def mm_site (mi e i3 : Nat) : Bool := (decide (mm_own mi = "LispForge") && decide (e = 0) && decide (i3 = 85)) || (decide (mm_own mi = "LispForge$Compiler") && decide (e = 1) && decide (i3 = 71)) || (decide (mm_own mi = "LispForge") && decide (e = 2) && decide (i3 = 109))
theorem mm_site_of {mi e i3 : Nat} (h : mm_site mi e i3 = true) : (Bundle.ownAtoms (mm_own mi) i3 (mm_ex e) mm_up).all mm_tw = true ∧ Jvm.Cond.initialized (mm_ex e) ∈ lw_tbl ∧ Bundle.fit (mm_ex e) = true := by
  simp only [mm_site, Bool.or_eq_true, Bool.and_eq_true, decide_eq_true_eq] at h
  rcases h with (⟨⟨h1, rfl⟩, rfl⟩ | ⟨⟨h1, rfl⟩, rfl⟩) | ⟨⟨h1, rfl⟩, rfl⟩
  · rw [h1]; exact ⟨mm_tw0, List.mem_of_getElem? (i := 92) (by decide +kernel), by decide +kernel⟩
  · rw [h1]; exact ⟨mm_tw1, List.mem_of_getElem? (i := 93) (by decide +kernel), by decide +kernel⟩
  · rw [h1]; exact ⟨mm_tw2, List.mem_of_getElem? (i := 98) (by decide +kernel), by decide +kernel⟩
/-- the five steps of a throw -/
def mm_chkT (mi pc e : Nat) (hs : List Nat) : Bool := match decode (mm_cd mi) pc with
  | .ok (.new i1, 3) => (match decode (mm_cd mi) (pc + 4) with
    | .ok (.ldc i2, 2) => (match decode (mm_cd mi) (pc + 6) with
      | .ok (.invokespecial i3, 3) => decide (decode (mm_cd mi) (pc + 3) = .ok (.dup, 1)) && decide (decode (mm_cd mi) (pc + 9) = .ok (.athrow, 1)) && mm_wq (hs.getD 0 0) (.classLink (mm_own mi) i1 (mm_ex e)) && (match lw_tbl[hs.getD 1 0]? with
        | some (.stringRef a b _) => decide (a = mm_own mi) && decide (b = i2)
        | _ => false) && mm_site mi e i3
      | _ => false)
    | .ok (.ldc_w i2, 3) => (match decode (mm_cd mi) (pc + 7) with
      | .ok (.invokespecial i3, 3) => decide (decode (mm_cd mi) (pc + 3) = .ok (.dup, 1)) && decide (decode (mm_cd mi) (pc + 10) = .ok (.athrow, 1)) && mm_wq (hs.getD 0 0) (.classLink (mm_own mi) i1 (mm_ex e)) && (match lw_tbl[hs.getD 1 0]? with
        | some (.stringRef a b _) => decide (a = mm_own mi) && decide (b = i2)
        | _ => false) && mm_site mi e i3
      | _ => false)
    | _ => false)
  | _ => false
def mm_last1 (i : Instr) : Bool := match i with
  | .goto _ => true
  | .lookupswitch _ _ => true
  | .return_ => true
  | .ireturn => true
  | .freturn => true
  | .areturn => true
  | _ => false
def mm_chk (mi : Nat) : Nat → List Instr → List (List Nat) → Bool
  | _, [], _ => true
  | pc, i :: is, hs => match i with
    | .goto_w t => decide (t.toNat = pc)
    | .checkcast e => mm_chkT mi pc e (hs.headD [])
    | i => (match decode (mm_cd mi) pc with
      | .ok (o, len) => mm_res mi pc o len i (hs.headD []) && (mm_last1 i || mm_chk mi (pc + len) is hs.tail)
      | .error _ => false)
