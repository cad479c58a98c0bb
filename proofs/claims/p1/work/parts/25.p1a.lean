/-! A FIRST CALL: both objects are made -/
def p1_L (i : Int32) (a b : Option mm_V) : mm_L := [some (vZ 1), some (vR 0), some (vR 25), some (vR 58), some (vI i), a, b]
def mm_eqL (a b : mm_L) : Bool := decide (a = b)
def mm_eqA (a b : mm_A) : Bool := decide (a = b)
def mm_eqS (a b : List mm_V) : Bool := decide (a = b)
theorem mm_quad {o : Option (Nat × (mm_L × (List mm_V × mm_H)))} {t : Nat} {L : mm_L} {st : List mm_V} (h1 : o.map (fun r => r.1) = some t) (h2 : o.map (fun r => mm_eqL r.2.1 L) = some true) (h3 : o.map (fun r => mm_eqS r.2.2.1 st) = some true) : ∃ h, o = some (t, L, st, h) := by
  obtain _ | ⟨a, b, c, h⟩ := o
  · cases h1
  · simp only [Option.map_some, Option.some.injEq, mm_eqL, mm_eqS, decide_eq_true_eq] at h1 h2 h3
    subst h1 h2 h3
    exact ⟨h, rfl⟩
set_option maxRecDepth 100000 in
theorem p1_m1 : p1_r.map (fun r => r.1) = some 23 := by decide +kernel
set_option maxRecDepth 100000 in
theorem p1_m2 : p1_r.map (fun r => mm_eqL r.2.1 (p1_L 0 none none)) = some true := by decide +kernel
set_option maxRecDepth 100000 in
theorem p1_m3 : p1_r.map (fun r => mm_eqS r.2.2.1 []) = some true := by decide +kernel
theorem p1_made : p1_r = some (23, p1_L 0 none none, [], p1_h) := by
  obtain ⟨h, hh⟩ := mm_quad p1_m1 p1_m2 p1_m3
  have : p1_h = h := by unfold p1_h; rw [hh]; rfl
  rw [hh, this]
/-- a case of the law without the script's numbers, by the interpreter: it comes to 480 -/
def p1_case (pc : Nat) : Option (Nat × (mm_L × (List mm_V × mm_H))) := (mm_blk 167 pc).bind fun is => mm_lin 400 5 167 is (p1_L 0 none none) [] p1_h
def p1_good (pc : Nat) : Bool := decide ((p1_case pc).map (fun r => r.1) = some 480) && decide ((p1_case pc).map (fun r => mm_eqL r.2.1 (p1_L 0 none none)) = some true) && decide ((p1_case pc).map (fun r => mm_eqS r.2.2.1 []) = some true)
set_option maxRecDepth 100000 in
theorem p1_position : p1_good 205 = true := by decide +kernel
set_option maxRecDepth 100000 in
theorem p1_clear : p1_good 255 = true := by decide +kernel
set_option maxRecDepth 100000 in
theorem p1_failure : p1_good 310 = true := by decide +kernel
set_option maxRecDepth 100000 in
theorem p1_restart : p1_good 348 = true := by decide +kernel
set_option maxRecDepth 100000 in
theorem p1_top : p1_good 467 = true := by decide +kernel
/-- the class's compile and link throw IllegalArgumentException, IllegalStateException -/
def p1_comp : Option (mm_A × mm_H) := mm_run 600 6 27 [vR 0] p1_h
def p1_link : Option (mm_A × mm_H) := mm_run 600 6 87 [vR 0] p1_h
set_option maxRecDepth 100000 in
theorem p1_comp_thrown : p1_comp.map (fun r => mm_eqA r.1 (aT 0)) = some true := by decide +kernel
set_option maxRecDepth 100000 in
theorem p1_link_thrown : p1_link.map (fun r => mm_eqA r.1 (aT 2)) = some true := by decide +kernel
