/-! THE START: what the statement's words give the small machine -/
theorem mm_arrP {s : State} {args : Array Value} {ty : FieldType} (h : (Cond.arrayClass ty).before args s = true) : ∃ cA : ClassId, ArrOfT s cA ty ∧ s.vm.findClass ("[" ++ ty.toString) = some cA := by
  obtain ⟨c, k, comp, h1, h2, h3⟩ := Cond.arrayClass_spec h
  exact ⟨c, fun n z => ⟨(fun k h => by cases h), k, h2, comp, h3⟩, h1⟩
theorem mm_arrO {s : State} {args : Array Value} {C : String} (h : (Cond.arrayOver (.object C)).before args s = true) : ∃ cA : ClassId, ArrOfT s cA (.object C) ∧ va_RA s cA (.object C) := by
  obtain ⟨comp, c, k, h1, -, h2, h3, h4⟩ := Cond.arrayOver_spec h
  exact ⟨c, fun n z => ⟨(fun k h => by cases h), k, h2, comp, h3⟩, ⟨k, comp, h2, h3, h1, h4⟩⟩
def mm_inst (q : vw_C) : Prop := Cond.instantiable q.1 q.2.2 ∈ lw_tbl
theorem mm_inst_ok {c : Nat} {q : vw_C} (h : vwCl[c]? = some q) : mm_inst q := by
  match c, h with
  | 0, h => cases h; exact List.mem_of_getElem? (i := 100) (by decide +kernel)
  | 1, h => cases h; exact List.mem_of_getElem? (i := 108) (by decide +kernel)
  | 2, h => cases h; exact List.mem_of_getElem? (i := 175) (by decide +kernel)
  | 3, h => cases h; exact List.mem_of_getElem? (i := 432) (by decide +kernel)
  | 4, h => cases h; exact List.mem_of_getElem? (i := 220) (by decide +kernel)
  | 5, h => cases h; exact List.mem_of_getElem? (i := 243) (by decide +kernel)
  | 6, h => cases h; exact List.mem_of_getElem? (i := 129) (by decide +kernel)
  | 7, h => cases h; exact List.mem_of_getElem? (i := 700) (by decide +kernel)
  | 8, h => cases h; exact List.mem_of_getElem? (i := 160) (by decide +kernel)
  | 9, h => cases h; exact List.mem_of_getElem? (i := 601) (by decide +kernel)
  | 10, h => cases h; exact List.mem_of_getElem? (i := 953) (by decide +kernel)
  | n + 11, h => simp [vwCl] at h
theorem mm_known {s : State} {args : Array Value} (hts : ∀ w ∈ lw_tbl, w.before args s = true) : ∃ (D : va_G) (cT : Nat → ClassId), va_K D vwCl (mm_tys cT) s := by
  have h0 : ∀ c : Nat, ∃ y : ClassId × (Nat → Nat), ∀ q : vw_C, vwCl[c]? = some q → u_Kn s q.1 q.2.1 q.2.2 y.1 y.2 := by
    intro c
    cases hq : vwCl[c]? with
    | none => exact ⟨(0, fun _ => 0), fun q z => by cases z⟩
    | some q =>
      obtain ⟨cC, iS, hk⟩ := u_known hts (mm_cls_ok hq).1 (hts _ (mm_inst_ok hq))
      exact ⟨(cC, iS), fun q2 z => by cases z; exact hk⟩
  obtain ⟨f, hf⟩ := Classical.axiomOfChoice h0
  obtain ⟨a0, b0, c0⟩ := mm_arrP (hts (.arrayClass .int) (List.mem_of_getElem? (i := 127) (by decide +kernel)))
  obtain ⟨a1, b1, c1⟩ := mm_arrP (hts (.arrayClass .byte) (List.mem_of_getElem? (i := 554) (by decide +kernel)))
  obtain ⟨a2, b2, c2⟩ := mm_arrP (hts (.arrayClass .char) (List.mem_of_getElem? (i := 1130) (by decide +kernel)))
  obtain ⟨a3, b3, c3⟩ := mm_arrP (hts (.arrayClass .long) (List.mem_of_getElem? (i := 1353) (by decide +kernel)))
  obtain ⟨a4, b4, c4⟩ := mm_arrO (hts (.arrayOver (.object "LispForge$Form")) (List.mem_of_getElem? (i := 135) (by decide +kernel)))
  obtain ⟨a5, b5, c5⟩ := mm_arrO (hts (.arrayOver (.object "LispForge$Unit")) (List.mem_of_getElem? (i := 166) (by decide +kernel)))
  refine ⟨(fun c => (f c).1, fun c => (f c).2), fun k => [a0, a1, a2, a3, a4, a5].getD k 0, fun c q hq => hf c q hq, fun k q hk => ?_⟩
  match k, hk with
  | 0, hk => cases hk; exact ⟨b0, c0⟩
  | 1, hk => cases hk; exact ⟨b1, c1⟩
  | 2, hk => cases hk; exact ⟨b2, c2⟩
  | 3, hk => cases hk; exact ⟨b3, c3⟩
  | 4, hk => cases hk; exact ⟨b4, c4⟩
  | 5, hk => cases hk; exact ⟨b5, c5⟩
  | n + 6, hk => simp [mm_tys] at hk
def mm_Zx (L : Nat) (xs : Nat → Int32) : Nat → List Int32 := fun j => if j = 0 then mm_step0 else (List.range L).map xs
def mm_stT : Term := .static "LispForge" "STEP_LENGTHS" "[I"
theorem mm_stE : ∀ j, j < 15 → Cond.eq (.elem mm_stT (.int (Int32.ofNat j))) (.int (mm_step0.getD j 0)) ∈ flatC (Jvm.Cond.and given_1 narrow_1) := by decide +kernel
theorem mm_start_T {s : State} {b L : Nat} {xs : Nat → Int32} (hts : ∀ w ∈ lw_tbl, w.before #[Value.ref b] s = true) (hX : va_X b L xs s s.heap) (hbl : b < s.heap.size) (hgv : (Jvm.Cond.and given_1 narrow_1).before #[Value.ref b] s = true) : ∃ (D : va_G) (cT : Nat → ClassId) (zt : Nat → Nat), zt 1 = b ∧ mm_T (mm_Zx L xs) s D cT zt (fun q => s.heap.size ≤ q) := by
  have hs := flat_of_before _ hgv
  have hA : ∀ a : Nat, a < s.heap.size → ¬ (s.heap.size ≤ a) := fun a h => by omega
  obtain ⟨D, cT, hK⟩ := mm_known hts
  obtain ⟨t0, e0, ht0⟩ := va_Tof (args := #[Value.ref b]) (s := s) (tm := mm_stT) (ty := .int) (N := 15) (f := fun j => .int (mm_step0.getD j 0)) (A := fun q => s.heap.size ≤ q) (by omega) (hs _ (by decide +kernel)) (va_eqt (hs (Cond.eq (.length mm_stT) (.int 15)) (by decide +kernel))) (fun j hj => va_eqt (hs _ (mm_stE j hj))) hA
  refine ⟨D, cT, fun j => if j = 0 then t0 else b, rfl, fun w hw hg => mm_gd_args hg (hts w hw), hK, ?_, ?_, ?_, ?_, ?_⟩
  · intro C hC
    simp only [mm_over, List.mem_cons, List.not_mem_nil, or_false] at hC
    rcases hC with rfl | rfl
    · exact va_AO.of (hts _ (List.mem_of_getElem? (i := 135) (by decide +kernel)))
    · exact va_AO.of (hts _ (List.mem_of_getElem? (i := 166) (by decide +kernel)))
  · exact va_Zof (hts _ (List.mem_of_getElem? (i := 895) (by decide +kernel))) (hts _ (List.mem_of_getElem? (i := 79) (by decide +kernel))) e0 hA
  · intro j hj
    match j, hj with
    | 0, _ => exact ht0
    | 1, _ =>
      obtain ⟨scr, x1, x2, x3, x4, x5⟩ := hX
      have hl : (mm_Zx L xs 1).length = L := by simp [mm_Zx]
      refine ⟨scr, x1, x2, x3, by rw [hl, x4] <;> omega, by rw [hl, x4] <;> rfl, fun j hj => ?_, hA b hbl⟩
      rw [hl] at hj
      rw [x5 j hj]
      simp [mm_Zx, hj]
  · exact mm_Zl_of (va_Zqof (hts _ (List.mem_of_getElem? (i := 514) (by decide +kernel))) (hts _ (List.mem_of_getElem? (i := 89) (by decide +kernel))) (hs _ (by decide +kernel)) hA) (hts _ (List.mem_of_getElem? (i := 514) (by decide +kernel)))
  · exact mm_Zl_of (va_Zqof (hts _ (List.mem_of_getElem? (i := 516) (by decide +kernel))) (hts _ (List.mem_of_getElem? (i := 89) (by decide +kernel))) (hs _ (by decide +kernel)) hA) (hts _ (List.mem_of_getElem? (i := 516) (by decide +kernel)))
/-! FROM THE LAW'S CONTRACT TO ITS WALK -/
set_option maxRecDepth 100000 in
theorem mm_cd_law : mm_cd 166 = code := rfl
set_option maxRecDepth 100000 in
theorem mm_ml_law : mm_ml 166 = 7 := rfl
set_option maxRecDepth 100000 in
theorem mm_rt_law : mm_rt 166 = ret := rfl
set_option maxRecDepth 100000 in
theorem mm_nm_law : mm_nm 166 = ⟨"LispForgeLaw", "law", "([I)Z"⟩ := rfl
theorem mm_begin {p : Program} {e : Env} {s : State} {m : MethodId} {below : List Frame} {meth : Method} {c : Code} (l : Launch) {b L : Nat} {xs : Nat → Int32}
    (hx : p.tables.exec = Jvm.exec) (htr : e.platform.stackTraces = false) (hb : c.code = code) (hr : meth.sig.returnType = ret) (hml : c.maxLocals = 7) (hown : s.vm.findClass "LispForgeLaw" = some m.cls) (hnm : meth.name = "law") (hlk : meth.locks = false) (hex : c.exceptionTable.toList = [])
    (hts : ∀ w ∈ lw_tbl, w.before #[Value.ref b] s = true) (hX : va_X b L xs s s.heap) (hbl : b < s.heap.size) (hgv : (Jvm.Cond.and given_1 narrow_1).before #[Value.ref b] s = true)
    (hG : mm_G (mm_Zx L xs) 1300 166 [vZ 1] ([], (601024, 7293034)) (fun r _ => r = aX (vI 1))) :
    W p l e room_1 s m #[Value.ref b] below meth c s.heap [] 0 0 (fun t => ∃ o, t.status = .running ∧ Ended t below o ∧ o = .returned (some (.int 1)) ∧ Framed s o t [] 601024 7293034) (entryFrame m ([Value.ref b] : List Value).toArray 7) := by
  obtain ⟨D, cT, zt, hz, hT⟩ := mm_start_T hts hX hbl hgv
  have h := hG p l e room_1 s m below meth c D cT zt (fun q => s.heap.size ≤ q) [] ⟨hx, htr, by rw [mm_cd_law]; exact hb, by rw [mm_rt_law]; exact hr, by rw [mm_ml_law]; exact hml, by rw [mm_nm_law]; exact hown, by rw [mm_nm_law]; exact hnm, hlk, by rw [hex]; rfl, by decide, by decide, fun q hq => hq, hT⟩ (fun v hv => by simp only [List.mem_singleton] at hv; subst hv; trivial) rfl (fun x hx => by cases hx) (fun k q hk => by cases hk) ⟨fun i j p q hp => (by cases hp), fun k q hk => (by cases hk)⟩ (Nat.le_refl _) (Nat.le_refl _)
  have hargs : (([vZ 1] : List mm_V).map (mm_v [] zt)).toArray = #[Value.ref b] := by rw [← hz]; rfl
  rw [hargs, mm_ml_law] at h
  intro T hT' X
  obtain ⟨t, st, r, h', rho, o, Lc, k, n, hpost, hrun, hend, hout, hW, hsame, hpre, hlen, hok, hP, hD, hS, hc, hn⟩ := h T hT' X
  subst hpost
  obtain ⟨rfl, -⟩ := hout
  refine ⟨t, st, _, hrun, hend, rfl, ⟨_, rfl⟩, hW, ?_⟩
  have h1 : s.sameButNew ({ t with vm := s.vm } : State) ([] ++ Lc) k n := hsame
  refine (h1.drop_fresh (fun x hx => hS.2.2 x hx)).mono ?_ ?_
  · have : k + h'.2.1 ≤ 601024 := hc
    omega
  · have : n + h'.2.2 ≤ 7293034 := hn
    omega
theorem g_Z0 {L : Nat} {xs : Nat → Int32} : c_Z0 (mm_Zx L xs) := by
  have h : mm_step0.length = 15 ∧ ∀ i : Nat, i < 15 → 1 ≤ (mm_step0.getD i 0).toInt ∧ (mm_step0.getD i 0).toInt ≤ 4 := by decide
  exact h
