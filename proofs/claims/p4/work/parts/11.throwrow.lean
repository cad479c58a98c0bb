section MTW
variable {Z : Nat → List Int32} {p : Program} {l : Launch} {e : Env} {R : Room} {s : State} {m : MethodId} {args : Array Value} {below : List Frame} {meth : Method} {c : Code} {H : Heap} {locs : List Loc} {cells slots : Nat} {Q : State → Prop} {cc : ByteArray} {pc : Nat} {ls : Array Slot} {rest : List Value}
/-- a String constant, by either of two instructions -/
theorem mm_ldcS (hx : p.tables.exec = Jvm.exec) (hb : c.code = cc) {own tx : String} {index : Nat} (hown : s.vm.findClass own = some m.cls) (hs : (Jvm.Cond.stringRef own index tx).before args s = true) {n : Nat} (hd : (n = 2 ∧ decode cc pc = .ok (.ldc index, 2)) ∨ (n = 3 ∧ decode cc pc = .ok (.ldc_w index, 3)))
    (k : ∀ a, W p l e R s m args below meth c H locs cells slots Q (F0 m (pc + n) ls (.ref a :: rest))) : W p l e R s m args below meth c H locs cells slots Q (F0 m pc ls rest) := by
  obtain ⟨kc, cf, i, a, hk, hcf, hcp, -, hr, hev⟩ := Cond.stringRef_spec hown hs
  intro T hT X
  obtain ⟨t, a1, b1⟩ := k a T hT X
  refine ⟨t, ?_, b1⟩
  rcases hd with ⟨rfl, hd⟩ | ⟨rfl, hd⟩
  · exact X.ldcString hx hown (text := tx) (a := a) hs hev (g := F0 m pc ls rest) rfl (by rw [hb]; exact hd) t a1
  · obtain ⟨k', hk', he⟩ := X.warmed.alike.2.2 _ _ hk
    have hr' : k'.resolved[index]? = some (some (.string a)) := by
      rcases X.warmed.entry hk hk' index with h | ⟨h, -⟩
      · rw [h]; exact hr
      · rw [hr] at h; cases h
    jvm_step X.here [hx, hb, hd, ldc_w.wp_string (e := e) (s := T) (f := F0 m pc ls rest) X.here.top hk' (by rw [he]; exact hcf) hcp hr']
    exact a1
/-- where the throw ends, told from its own beginning -/
def mm_ThrQ (s : State) (below : List Frame) (C : String) : State → Prop := fun t => ∃ a : Addr, t.status = .running ∧ Ended t below (.threw a) ∧ s.WarmedH t.vm ∧ s.sameButNew ({ t with vm := s.vm } : State) [] 1 6 ∧ mm_thr a C t
theorem mm_throwW {D : va_G} {cT : Nat → ClassId} {zt : Nat → Nat} {A : Nat → Prop} {own C tx : String} {i1 i2 i3 n : Nat} (hx : p.tables.exec = Jvm.exec) (htr : e.platform.stackTraces = false) (hb : c.code = cc) (hml : c.maxLocals = ls.size) (hlk : meth.locks = false) (hex : c.exceptionTable.toList = []) (hown : s.vm.findClass own = some m.cls) (hT : mm_T Z s D cT zt A)
    (hcl : (Jvm.Cond.classLink own i1 C).before args s = true) (hini : (Jvm.Cond.initialized C).before args s = true) (hstr : (Jvm.Cond.stringRef own i2 tx).before args s = true) (hat : (Bundle.ownAtoms own i3 C mm_up).all mm_tw = true) (hfit : Bundle.fit C = true)
    (d1 : decode cc pc = .ok (.new i1, 3)) (d2 : decode cc (pc + 3) = .ok (.dup, 1)) (d3 : (n = 2 ∧ decode cc (pc + 4) = .ok (.ldc i2, 2)) ∨ (n = 3 ∧ decode cc (pc + 4) = .ok (.ldc_w i2, 3))) (d4 : decode cc (pc + 4 + n) = .ok (.invokespecial i3, 3)) (d5 : decode cc (pc + 4 + n + 3) = .ok (.athrow, 1))
    (hfr : 5 < R.frames) (hlo : (rest.map fun v => v.category).sum + 82 ≤ R.locals) (hc1 : 1 ≤ R.cells) (hs6 : 6 ≤ R.slots) : W p l e R s m args below meth c s.heap [] 0 0 (mm_ThrQ s below C) (F0 m pc ls rest) := by
  have hall : ∀ w ∈ Bundle.ownAtoms own i3 C mm_up, w.before args s = true := fun w hw => mm_tw_before hT (List.all_eq_true.mp hat w hw)
  have hins : (Jvm.Cond.instantiable C 6).before args s = true := hall _ (by simp [Bundle.ownAtoms])
  obtain ⟨cX, kX, hfc, hkX, -⟩ := Cond.instantiable_spec hins
  refine W.newcK hx hb hown hcl hins hini rfl d1 (by omega) (by omega) hfc rfl fun H1 kC hkC e1 z1 o1 => ?_
  cases hkX.symm.trans hkC
  refine lv_dup hx hb d2 rfl ?_
  refine mm_ldcS hx hb hown hstr d3 fun q => ?_
  intro T hT2 X
  obtain ⟨U, st, hrun, hend, hW, hsame, ce, hce, oc⟩ := X.ctorThrowS hx htr (own := own) (cls := C) (names := mm_up) (ic := i3) hown hfit (by decide +kernel) hall (fun x hx => by cases hx) (a := s.heap.size) hfc hkX (by rw [hT2]; exact e1) (Nat.le_refl _) (msg := .ref q) rfl (g := F0 m (pc + 3 + 1 + n) ls (.ref q :: .ref s.heap.size :: .ref s.heap.size :: rest)) rfl hml.symm rfl rfl rfl (by rw [hb]; exact d4) (by rw [hb]; exact d5) (by rw [hex]; intro y hy; cases hy) (by simp [mm_up]; omega) (by
      show 2 * 0 + (1 + (rest.map fun v => v.category).sum) + (13 * (2 + 1) + 42) ≤ R.locals
      omega) hlk
  refine ⟨U, st, s.heap.size, hrun, hend, hW, hsame, ce, hce, ?_, ?_⟩
  · rw [oc.vm]; rfl
  · rw [hW.alike.findClass]; exact oc.cls
end MTW
section MTR
variable {Z : Nat → List Int32} {p : Program} {l : Launch} {e : Env} {R : Room} {s : State} {m : MethodId} {args : Array Value} {below : List Frame} {meth : Method} {c : Code} {Post : mm_A → mm_H → Prop} {D : va_G} {cT : Nat → ClassId} {zt : Nat → Nat} {A : Nat → Prop} {rho0 : List Nat} {pc : Nat} {L : mm_L} {st : List mm_V} {h : mm_H}
theorem mr_throw {mi0 d ex i1 i2 i3 n : Nat} {tx : String} (hh0 : mm_hd mi0 = []) (hF : mm_F Z mi0 d p e R s m meth c D cT zt A) (hd6 : 6 ≤ d) (hlen : st.length ≤ 12)
    (hcl : Jvm.Cond.classLink (mm_nm mi0).cls i1 (mm_ex ex) ∈ lw_tbl) (hclg : mm_gd (Jvm.Cond.classLink (mm_nm mi0).cls i1 (mm_ex ex)) = true) (hini : Jvm.Cond.initialized (mm_ex ex) ∈ lw_tbl) (hinig : mm_gd (Jvm.Cond.initialized (mm_ex ex)) = true) (hstr : Jvm.Cond.stringRef (mm_nm mi0).cls i2 tx ∈ lw_tbl) (hat : (Bundle.ownAtoms (mm_nm mi0).cls i3 (mm_ex ex) mm_up).all mm_tw = true) (hfit : Bundle.fit (mm_ex ex) = true)
    (d1 : decode (mm_cd mi0) pc = .ok (.new i1, 3)) (d2 : decode (mm_cd mi0) (pc + 3) = .ok (.dup, 1)) (d3 : (n = 2 ∧ decode (mm_cd mi0) (pc + 4) = .ok (.ldc i2, 2)) ∨ (n = 3 ∧ decode (mm_cd mi0) (pc + 4) = .ok (.ldc_w i2, 3))) (d4 : decode (mm_cd mi0) (pc + 4 + n) = .ok (.invokespecial i3, 3)) (d5 : decode (mm_cd mi0) (pc + 4 + n + 3) = .ok (.athrow, 1))
    (hb1 : 1 ≤ h.2.1) (hb6 : 6 ≤ h.2.2) (hq : Post (aT ex) (h.1, (h.2.1 - 1, h.2.2 - 6))) : mm_W p l e R s m args below meth c (mm_End R s below D cT zt A rho0 Post) D cT zt A (mm_ml mi0) rho0 pc L st h := by
  intro rho H locs cells slots ls hp hst hI T hT X
  obtain ⟨hx, htr, hb, hr, hml, hown, hnm, hlk, hex0, hd1, hd2, hA, hTb⟩ := id hF
  have hex : c.exceptionTable.toList = [] := by
    rw [hh0] at hex0
    exact List.map_eq_nil_iff.mp hex0
  have hbc := hI.2.2.2.2.2.2.2.1
  have hbs := hI.2.2.2.2.2.2.2.2
  have X' := mm_reroot X (by omega) (by omega)
  have hW0 : s.WarmedH (T.setFrames (.invoking m args :: below)).vm := X.warmed
  have hT1 : mm_T Z (T.setFrames (.invoking m args :: below)) D cT zt A := hTb.moved hW0 (fun q h1 h2 => by
    show T.heap[q]? = _
    rw [hT]
    exact hI.2.2.2.2.2.1.2.1 q h1 h2) (fun _ z => z)
  have hcat := mm_catSum (st.map (mm_v rho zt))
  rw [List.length_map] at hcat
  obtain ⟨U, st1, a, hrun, hend, hW, hsame, hthr⟩ := mm_throwW (l := l) (R := { frames := R.frames, cells := R.cells - cells, slots := R.slots - slots, locals := R.locals }) (s := T.setFrames (.invoking m args :: below)) (m := m) (args := args) (below := below) (ls := ls) (rest := st.map (mm_v rho zt)) (own := (mm_nm mi0).cls) (C := mm_ex ex) (tx := tx) hx htr hb (by rw [hml]; exact hI.2.2.2.2.2.2.1.2.1.symm) hlk hex (by
      show T.vm.findClass _ = _
      rw [X.warmed.alike.findClass]; exact hown) hT1 (mm_gd_args hclg (hT1.1 _ hcl hclg)) (mm_gd_args hinig (hT1.1 _ hini hinig)) (mm_gd_args rfl (hT1.1 _ hstr rfl)) hat hfit d1 d2 d3 d4 d5 (by show 5 < R.frames; omega) (by show _ ≤ R.locals; omega) (by show 1 ≤ R.cells - cells; omega) (by show 6 ≤ R.slots - slots; omega) T rfl X'
  obtain ⟨g₀, hfr⟩ := X.frames_eq
  obtain ⟨th, hth, -⟩ := State.frames_cons hfr
  have hcur : T.cur < T.threads.size := State.cur_lt_of_frames hfr
  have h0 : T.sameButNew (T.setFrames (.invoking m args :: below)) [] 0 0 := (State.sameButNew.refl T hth).setFrames _ hcur
  have h1 : T.sameButNew (U.setVm T.vm) ([] ++ []) (0 + 1) (0 + 6) := h0.trans hsame
  have h2 := X.same.trans (h1.setVm s.vm)
  have hheap : ∀ q, q < T.heap.size → U.heap[q]? = T.heap[q]? := fun q hq => mm_same_cells hsame (q := q) hq
  have hsz : T.heap.size ≤ U.heap.size := h1.2.1
  subst hT
  have hP : va_P D vwCl (mm_w rho zt cT h.1) U.heap := hI.2.2.2.1.kept (fun k q hk => hheap q.1 (hI.2.2.2.1 k q hk).lt)
  refine ⟨U, st1, aT ex, (h.1, (h.2.1 - 1, h.2.2 - 6)), rho, .threw a, locs, cells + 1, slots + 6, hq, hrun, hend, ⟨a, rfl, hthr⟩, State.WarmedH.trans X.warmed hW, ?_, hp, hI.1, hI.2.1, hP, hI.2.2.2.2.1, ⟨Nat.le_trans hI.2.2.2.2.2.1.1 hsz, fun q q1 q2 => ?_, hI.2.2.2.2.2.1.2.2⟩, ?_, ?_⟩
  · have h3 : s.sameButNew ((U.setVm T.vm).setVm s.vm) locs (cells + 1) (slots + 6) := by simpa using h2
    exact h3
  · rw [hheap q (Nat.lt_of_lt_of_le q1 hI.2.2.2.2.2.1.1)]
    exact hI.2.2.2.2.2.1.2.1 q q1 q2
  · show cells + 1 + (h.2.1 - 1) ≤ R.cells
    omega
  · show slots + 6 + (h.2.2 - 6) ≤ R.slots
    omega
end MTR
