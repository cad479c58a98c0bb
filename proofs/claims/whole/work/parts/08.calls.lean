/-! CALLS -/
theorem mm_catSum : ∀ l : List Value, (l.map fun v => v.category).sum ≤ 2 * l.length
  | [] => by simp
  | v :: l => by
    have h1 := mm_catSum l
    have h2 := lv_cat v
    simp only [List.map_cons, List.sum_cons, List.length_cons]
    omega
theorem mm_steps_weaken {tb : Tables} {e : Env} {mid below : List Frame} {a b : State} (h : Steps tb e (mid ++ below) a b) : Steps tb e below a b := by
  obtain ⟨n, hn, w⟩ := h
  exact ⟨n, hn, fun k hk => (w k hk).weaken⟩
theorem mm_Zs.moved {Z : Nat → List Int32} {s U : State} {zt : Nat → Nat} {A B : Nat → Prop} (hvm : s.vm.Alike U.vm) (hk : ∀ q : Nat, q < s.heap.size → ¬ A q → U.heap[q]? = s.heap[q]?) (hAB : ∀ q, B q → A q) (h : mm_Zs Z s zt A) : mm_Zs Z U zt B := by
  obtain ⟨h1, h2, h3, h4⟩ := h
  exact ⟨((h1.kept hk).moved hvm).narrow hAB, fun j hj => (((h2 j hj).kept hk).moved hvm).narrow hAB, h3.moved hvm hk hAB, h4.moved hvm hk hAB⟩
/-- the tables' words go with the tables -/
theorem mm_T.moved {Z : Nat → List Int32} {s U : State} {D : va_G} {cT : Nat → ClassId} {zt : Nat → Nat} {A B : Nat → Prop} (hW : s.WarmedH U.vm) (hk : ∀ q : Nat, q < s.heap.size → ¬ A q → U.heap[q]? = s.heap[q]?) (hAB : ∀ q, B q → A q) (h : mm_T Z s D cT zt A) : mm_T Z U D cT zt B := by
  obtain ⟨h1, h2, h3, h5⟩ := h
  exact ⟨fun w hw hg => mm_gd_warm hW hg (h1 w hw hg), va_K.moved hW.alike h2, fun C hC => va_AO.moved hW.alike (h3 C hC), h5.moved hW.alike hk hAB⟩
section MC
variable {Z : Nat → List Int32} {p : Program} {l : Launch} {e : Env} {R : Room} {s : State} {m : MethodId} {args : Array Value} {below : List Frame} {meth : Method} {c : Code} {Post : mm_A → mm_H → Prop} {D : va_G} {cT : Nat → ClassId} {zt : Nat → Nat} {A : Nat → Prop} {nL : Nat} {rho0 : List Nat} {pc : Nat} {L : mm_L} {h : mm_H}
/-- the callee mi, entered from the frame at pc, ends, and the caller goes on behind it, or is left too -/
theorem mm_thru {T : State} {locs : List Loc} {cells slots mi0 mi d : Nat} {rho : List Nat} {ls : Array Slot} {rest vs : List mm_V} {F : List mm_V → mm_H → Prop} {ig : Instr} (X : Stand p l e R s m args below meth c T locs cells slots) (hF : mm_F Z mi0 (d + 1) p e R s m meth c D cT zt A) (hnL : nL = mm_ml mi0)
    (hI : mm_I R s D cT zt A nL rho L h T.heap locs cells slots ls) (hp : rho0 <+: rho) (hrest : ∀ v ∈ rest, mm_ok h.1.length v) (hvs : ∀ v ∈ vs, mm_ok h.1.length v) (hlen : rest.length ≤ 12) (hdg : decode c.code pc = .ok (ig, 3))
    (hcode : Jvm.Cond.code (mm_nm mi) (mm_cd mi) (mm_ml mi) (mm_rt mi) ∈ lw_tbl) (hgc : mm_gd (Jvm.Cond.code (mm_nm mi) (mm_cd mi) (mm_ml mi) (mm_rt mi)) = true) (hpl : plainName (mm_nm mi).cls = true) (hmax : mm_ml mi ≤ 20)
    (hG : mm_G Z d mi vs h (mm_Kt Post F rest)) (kk : ∀ st h', F st h' → mm_W p l e R s m args below meth c (mm_End R s below D cT zt A rho0 Post) D cT zt A nL rho0 (pc + 3) L st h')
    {mk : MethodId} (hnamed : s.methodNamed? (mm_nm mi) = some mk) :
    ∃ t, Steps p.tables e below (doInvoke e (T.setTop (F0 m pc ls (rest.map (mm_v rho zt)))) [] mk (vs.map (mm_v rho zt)).toArray).1 t ∧ mm_End R s below D cT zt A rho0 Post t := by
  obtain ⟨hx, htr, hb, hr, hml, hown, hnm, hlk, hex, hd1, hd2, hA, hTb⟩ := hF
  have hcs : (Jvm.Cond.code (mm_nm mi) (mm_cd mi) (mm_ml mi) (mm_rt mi)).before #[] s = true := hTb.1 _ hcode hgc
  obtain ⟨methk, ck, k1, k2, k3, k4, k5, k6, k7, k8⟩ := Cond.code_spec hnamed hcs
  have hmk : T.vm.method? mk = some methk := by rw [X.warmed.alike.method?]; exact k1
  have hcls : ∀ k : Class, s.vm.classes[mk.cls]? = some k → plainName k.name = true := fun k hk => by
    obtain ⟨k', hk', hn⟩ := className_of_methodNamed hnamed
    cases hk.symm.trans hk'
    rw [hn]; exact hpl
  have hpk : T.plainMethod mk := X.warmed.plainAt hcls
  have hsize : ls.size = c.maxLocals := by rw [hml, ← hnL]; exact hI.2.2.2.2.2.2.1.2.1
  have hcat := mm_catSum (rest.map (mm_v rho zt))
  rw [List.length_map] at hcat
  have hbc := hI.2.2.2.2.2.2.2.1
  have hbs := hI.2.2.2.2.2.2.2.2
  obtain ⟨Y₀, hin⟩ := X.into (g := F0 m pc ls (rest.map (mm_v rho zt))) rfl hsize hdg (vs.map (mm_v rho zt)).toArray (R' := { frames := d, cells := h.2.1, slots := h.2.2, locals := 64 * d }) hmk k2 k6 hpk hd1 (by
    show 2 * 0 + ((rest.map (mm_v rho zt)).map fun v => v.category).sum + (ck.maxLocals + 11) + 64 * d ≤ R.locals
    rw [k4]
    omega) hbc hbs
  generalize hg : F0 m pc ls (rest.map (mm_v rho zt)) = g at Y₀ hin
  have hsv : (T.calling g mk (vs.map (mm_v rho zt)).toArray).vm = T.vm := rfl
  have hsh : (T.calling g mk (vs.map (mm_v rho zt)).toArray).heap = T.heap := rfl
  have hWs : s.WarmedH (T.calling g mk (vs.map (mm_v rho zt)).toArray).vm := X.warmed
  have hFA : ∀ q, va_A (mm_w rho zt cT h.1) T.heap.size q → A q := by
    intro q hq
    rcases hq with ⟨k, e, hq⟩ | hq
    · exact hI.2.2.2.2.1.2 k _ hq
    · exact hA q (Nat.le_trans hI.2.2.2.2.2.1.1 hq)
  have hTb' : mm_T Z (T.calling g mk (vs.map (mm_v rho zt)).toArray) D cT zt (va_A (mm_w rho zt cT h.1) T.heap.size) := hTb.moved hWs hI.2.2.2.2.2.1.2.1 hFA
  have hF' : mm_F Z mi d p e { frames := d, cells := h.2.1, slots := h.2.2, locals := 64 * d } (T.calling g mk (vs.map (mm_v rho zt)).toArray) mk methk ck D cT zt (va_A (mm_w rho zt cT h.1) T.heap.size) :=
    ⟨hx, htr, k3, k5, k4, by rw [hsv, X.warmed.alike.findClass]; exact findClass_of_methodNamed hnamed, (name_of_methodNamed hnamed k1).1, k6, by simpa using k7, Nat.le_refl _, Nat.le_refl _, fun q hq => Or.inr hq, hTb'⟩
  have hK := hG p l e { frames := d, cells := h.2.1, slots := h.2.2, locals := 64 * d } _ mk (.java g :: below) methk ck D cT zt _ rho hF' hvs hI.1 hI.2.1 hI.2.2.2.1 hI.2.2.2.2.1.self (Nat.le_refl _) (Nat.le_refl _)
  rw [← k4] at hK
  obtain ⟨t, st1, r, h', rho', o, Lc, k, n, hpost, hrun, hend, hout, hW, hsame, hpre, hlen', hok', hP', hD', hS', hc', hn'⟩ := hK ((T.setTop g).pushFrame (.java (entryFrame mk (vs.map (mm_v rho zt)).toArray ck.maxLocals))) rfl Y₀
  have st1' : Steps p.tables e below _ t := mm_steps_weaken (mid := [.java g]) st1
  obtain ⟨tl, rfl⟩ := hpre
  have hgrow : h.1.length ≤ h'.1.length := by rw [← hlen', ← hI.1, List.length_append]; omega
  rw [hin []]
  have hmI : ∀ T' : State, T'.heap = t.heap → mm_I R s D cT zt A nL (rho ++ tl) L h' T'.heap (locs ++ Lc) (cells + k) (slots + n) ls := by
    intro T' hT'
    rw [hT']
    refine ⟨hlen', hok', fun v hv => mm_ok_mono hgrow (hI.2.2.1 v hv), hP', hD'.weaken (fun _ q _ hq => hFA q.1 hq), ⟨Nat.le_trans hI.2.2.2.2.2.1.1 hS'.1, fun q h1 h2 => ?_, fun q hq => ?_⟩, hI.2.2.2.2.2.2.1.grow (fun v hv => by rw [hI.1]; exact hI.2.2.1 v hv), ?_, ?_⟩
    · rw [hS'.2.1 q (Nat.lt_of_lt_of_le h1 hI.2.2.2.2.2.1.1) (fun z => h2 (hFA q z))]
      exact hI.2.2.2.2.2.1.2.1 q h1 h2
    · rcases List.mem_append.mp hq with z | z
      · exact hI.2.2.2.2.2.1.2.2 q z
      · exact hFA _ (hS'.2.2 q z)
    · have : k + h'.2.1 ≤ h.2.1 := hc'
      omega
    · have : n + h'.2.2 ≤ h.2.2 := hn'
      omega
  cases r with
  | inl v =>
    obtain ⟨rfl, hv⟩ := hout
    obtain ⟨T', X', hW', hB', ht⟩ := X.outOf (g := g) (by rw [← hg]) (by rw [← hg]; exact hdg) hend hW hsame
    have hT' : T'.heap = t.heap := (congrArg State.heap ht).symm
    have hFk : F (v.toList ++ rest) h' := by
      cases v with
      | none => exact hpost
      | some w => exact hpost
    obtain ⟨t2, st2, q2⟩ := kk _ h' hFk (rho ++ tl) T'.heap (locs ++ Lc) (cells + k) (slots + n) ls (hp.trans (List.prefix_append _ _)) (fun w hw => by
      rcases List.mem_append.mp hw with z | z
      · exact hv w (by cases v with
          | none => simp at z
          | some y => simp at z; rw [z])
      · exact mm_ok_mono hgrow (hrest w z)) (hmI T' hT') T' rfl X'
    refine ⟨t2, st1'.trans ?_, q2⟩
    rw [ht, ← hg]
    have : (F0 m (pc + 3) ls ((v.toList ++ rest).map (mm_v (rho ++ tl) zt)) : JFrame) = { F0 m pc ls (rest.map (mm_v rho zt)) with pc := (F0 m pc ls (rest.map (mm_v rho zt))).pc + 3, stack := (v.map (mm_v (rho ++ tl) zt)).toList ++ (F0 m pc ls (rest.map (mm_v rho zt))).stack } := by
      have hm : rest.map (mm_v (rho ++ tl) zt) = rest.map (mm_v rho zt) := mm_map_app (fun w hw => by rw [hI.1]; exact hrest w hw)
      cases v with
      | none => simp [hm]
      | some w => simp [hm]
    rw [← this]
    exact st2
  | inr ex =>
    obtain ⟨x, rfl, hx2⟩ := hout
    obtain ⟨T', X', hW', hB', ht⟩ := X.outOfThrown (g := g) (by rw [← hg]) hend hW hsame
    have hT' : T'.heap = t.heap := (congrArg State.heap ht).symm
    have hV' : T'.vm = t.vm := (congrArg State.vm ht).symm
    obtain ⟨w1, w2, w3, w4, w5⟩ := X'.leaveThrown x (g := g) (by rw [← hg]) (by rw [← hg]) (by rw [← hg]) (by rw [hex]; intro y hy; cases hy) hlk
    have hJ := hmI T' hT'
    refine ⟨T'.setFrames (.throwing x :: below), st1'.trans (by rw [ht]; exact w1), .inr ex, h', rho ++ tl, .threw x, locs ++ Lc, cells + k, slots + n, hpost, w2, w3, ⟨x, rfl, ?_⟩, w4, w5, hp.trans (List.prefix_append _ _), hJ.1, hJ.2.1, hJ.2.2.2.1, hJ.2.2.2.2.1, hJ.2.2.2.2.2.1, hJ.2.2.2.2.2.2.2.1, hJ.2.2.2.2.2.2.2.2⟩
    obtain ⟨cell, c1, c2, c3⟩ := hx2
    exact ⟨cell, by show T'.heap[x]? = _; rw [hT']; exact c1, c2, by show T'.vm.findClass _ = _; rw [hV']; exact c3⟩
end MC
