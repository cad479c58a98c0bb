/-! CALLS -/
theorem mm_catSum : ∀ l : List Value, (l.map fun v => v.category).sum ≤ 2 * l.length
  | [] => by simp
  | v :: l => by
    have h1 := mm_catSum l
    have h2 := lv_cat v
    simp only [List.map_cons, List.sum_cons, List.length_cons]
    omega
theorem mm_steps_weaken {tb : Tables} {e : Env} {mid below : List Frame} {a b : State} (h : Steps tb e (mid ++ below) a b) : Steps tb e below a b := by
  obtain ⟨n, hn, w⟩ := h
  exact ⟨n, hn, fun k hk => (w k hk).weaken⟩
theorem mm_Zs.moved {Z : Nat → List Int32} {s U : State} {zt : Nat → Nat} {A B : Nat → Prop} (hvm : s.vm.Alike U.vm) (hk : ∀ q : Nat, q < s.heap.size → ¬ A q → U.heap[q]? = s.heap[q]?) (hAB : ∀ q, B q → A q) (h : mm_Zs Z s zt A) : mm_Zs Z U zt B := by
  obtain ⟨h1, h2, h3, h4⟩ := h
  exact ⟨((h1.kept hk).moved hvm).narrow hAB, fun j hj => (((h2 j hj).kept hk).moved hvm).narrow hAB, h3.moved hvm hk hAB, h4.moved hvm hk hAB⟩
/-- the tables' words go with the tables -/
theorem mm_T.moved {Z : Nat → List Int32} {s U : State} {D : va_G} {cT : Nat → ClassId} {zt : Nat → Nat} {A B : Nat → Prop} (hW : s.WarmedH U.vm) (hk : ∀ q : Nat, q < s.heap.size → ¬ A q → U.heap[q]? = s.heap[q]?) (hAB : ∀ q, B q → A q) (h : mm_T Z s D cT zt A) : mm_T Z U D cT zt B := by
  obtain ⟨h1, h2, h3, h5⟩ := h
  exact ⟨fun w hw hg => mm_gd_warm hW hg (h1 w hw hg), va_K.moved hW.alike h2, fun C hC => va_AO.moved hW.alike (h3 C hC), h5.moved hW.alike hk hAB⟩
section MC
variable {Z : Nat → List Int32} {p : Program} {l : Launch} {e : Env} {R : Room} {s : State} {m : MethodId} {args : Array Value} {below : List Frame} {meth : Method} {c : Code} {Post : mm_A → mm_H → Prop} {D : va_G} {cT : Nat → ClassId} {zt : Nat → Nat} {A : Nat → Prop} {nL : Nat} {rho0 : List Nat} {pc : Nat} {L : mm_L} {h : mm_H}
/-- what the word of a method's code says -/
def mm_spec (s : State) (mi : Nat) (mk : MethodId) : Prop := ∃ methk ck, s.vm.method? mk = some methk ∧ methk.code = some ck ∧ ck.code = mm_cd mi ∧ ck.maxLocals = mm_ml mi ∧ methk.sig.returnType = mm_rt mi ∧ methk.locks = false ∧ ck.exceptionTable.toList.map mm_et = mm_hd mi
theorem mm_spec_of {s : State} {mi : Nat} {mk : MethodId} {args : Array Value} (hhk : mm_hd mi = []) (hnamed : s.methodNamed? (mm_nm mi) = some mk) (h : (Jvm.Cond.code (mm_nm mi) (mm_cd mi) (mm_ml mi) (mm_rt mi)).before args s = true) : mm_spec s mi mk := by
  obtain ⟨methk, ck, k1, k2, k3, k4, k5, k6, k7, k8⟩ := Cond.code_spec hnamed h
  refine ⟨methk, ck, k1, k2, k3, k4, k5, k6, ?_⟩
  have h1 : ck.exceptionTable.toList = [] := by simpa using k7
  rw [h1, hhk]; rfl
theorem mm_spec_with {s : State} {mi : Nat} {mk : MethodId} {args : Array Value} (hnamed : s.methodNamed? (mm_nm mi) = some mk) (h : (Jvm.Cond.codeWith (mm_nm mi) (mm_cd mi) (mm_ml mi) (mm_rt mi) (mm_hd mi)).before args s = true) : mm_spec s mi mk := by
  obtain ⟨m2, methk, ck, k0, k1, k2, k3, k4, k5, k6, k7, k8⟩ := Cond.codeWith_spec h
  cases hnamed.symm.trans k0
  exact ⟨methk, ck, k1, k2, k3, k4, k6, k7, k5⟩
/-- the callee mi, entered from the frame at pc, ends, and the caller goes on behind it, or at what came thrown -/
theorem mm_thru0 {T : State} {locs : List Loc} {cells slots mi0 mi d : Nat} {rho : List Nat} {ls : Array Slot} {rest vs : List mm_V} {G0 : mm_A → mm_H → Prop} {ig : Instr} (X : Stand p l e R s m args below meth c T locs cells slots) (hF : mm_F Z mi0 (d + 1) p e R s m meth c D cT zt A) (hnL : nL = mm_ml mi0)
    (hI : mm_I R s D cT zt A nL rho L h T.heap locs cells slots ls) (hp : rho0 <+: rho) (hrest : ∀ v ∈ rest, mm_ok h.1.length v) (hvs : ∀ v ∈ vs, mm_ok h.1.length v) (hlen : rest.length ≤ 12) (hdg : decode c.code pc = .ok (ig, 3))
    {mk : MethodId} (hspec : mm_spec s mi mk) (hnamed : s.methodNamed? (mm_nm mi) = some mk) (hpl : plainName (mm_nm mi).cls = true) (hmax : mm_ml mi ≤ 20)
    (hG : mm_G Z d mi vs h G0) (kk : ∀ v h', G0 (.inl v) h' → mm_W p l e R s m args below meth c (mm_End R s below D cT zt A rho0 Post) D cT zt A nL rho0 (pc + 3) L (v.toList ++ rest) h')
    (kx : ∀ ex h' T' rho' locs' cells' slots' x, G0 (.inr ex) h' → mm_thr x (mm_ex ex) T' → rho0 <+: rho' → Stand p l e R s m args below meth c T' locs' cells' slots' → mm_I R s D cT zt A nL rho' L h' T'.heap locs' cells' slots' ls → ∃ t, Steps p.tables e below ((T'.setTop (F0 m pc ls (rest.map (mm_v rho zt)))).pushFrame (.throwing x)) t ∧ mm_End R s below D cT zt A rho0 Post t) :
    ∃ t, Steps p.tables e below (doInvoke e (T.setTop (F0 m pc ls (rest.map (mm_v rho zt)))) [] mk (vs.map (mm_v rho zt)).toArray).1 t ∧ mm_End R s below D cT zt A rho0 Post t := by
  obtain ⟨hx, htr, hb, hr, hml, hown, hnm, hlk, hex, hd1, hd2, hA, hTb⟩ := hF
  obtain ⟨methk, ck, k1, k2, k3, k4, k5, k6, k7⟩ := hspec
  have hmk : T.vm.method? mk = some methk := by rw [X.warmed.alike.method?]; exact k1
  have hcls : ∀ k : Class, s.vm.classes[mk.cls]? = some k → plainName k.name = true := fun k hk => by
    obtain ⟨k', hk', hn⟩ := className_of_methodNamed hnamed
    cases hk.symm.trans hk'
    rw [hn]; exact hpl
  have hpk : T.plainMethod mk := X.warmed.plainAt hcls
  have hsize : ls.size = c.maxLocals := by rw [hml, ← hnL]; exact hI.2.2.2.2.2.2.1.2.1
  have hcat := mm_catSum (rest.map (mm_v rho zt))
  rw [List.length_map] at hcat
  have hbc := hI.2.2.2.2.2.2.2.1
  have hbs := hI.2.2.2.2.2.2.2.2
  obtain ⟨Y₀, hin⟩ := X.into (g := F0 m pc ls (rest.map (mm_v rho zt))) rfl hsize hdg (vs.map (mm_v rho zt)).toArray (R' := { frames := d, cells := h.2.1, slots := h.2.2, locals := 64 * d }) hmk k2 k6 hpk hd1 (by
    show 2 * 0 + ((rest.map (mm_v rho zt)).map fun v => v.category).sum + (ck.maxLocals + 11) + 64 * d ≤ R.locals
    rw [k4]
    omega) hbc hbs
  generalize hg : F0 m pc ls (rest.map (mm_v rho zt)) = g at Y₀ hin
  have hsv : (T.calling g mk (vs.map (mm_v rho zt)).toArray).vm = T.vm := rfl
  have hsh : (T.calling g mk (vs.map (mm_v rho zt)).toArray).heap = T.heap := rfl
  have hWs : s.WarmedH (T.calling g mk (vs.map (mm_v rho zt)).toArray).vm := X.warmed
  have hFA : ∀ q, va_A (mm_w rho zt cT h.1) T.heap.size q → A q := by
    intro q hq
    rcases hq with ⟨k, e, hq⟩ | hq
    · exact hI.2.2.2.2.1.2 k _ hq
    · exact hA q (Nat.le_trans hI.2.2.2.2.2.1.1 hq)
  have hTb' : mm_T Z (T.calling g mk (vs.map (mm_v rho zt)).toArray) D cT zt (va_A (mm_w rho zt cT h.1) T.heap.size) := hTb.moved hWs hI.2.2.2.2.2.1.2.1 hFA
  have hF' : mm_F Z mi d p e { frames := d, cells := h.2.1, slots := h.2.2, locals := 64 * d } (T.calling g mk (vs.map (mm_v rho zt)).toArray) mk methk ck D cT zt (va_A (mm_w rho zt cT h.1) T.heap.size) :=
    ⟨hx, htr, k3, k5, k4, by rw [hsv, X.warmed.alike.findClass]; exact findClass_of_methodNamed hnamed, (name_of_methodNamed hnamed k1).1, k6, k7, Nat.le_refl _, Nat.le_refl _, fun q hq => Or.inr hq, hTb'⟩
  have hK := hG p l e { frames := d, cells := h.2.1, slots := h.2.2, locals := 64 * d } _ mk (.java g :: below) methk ck D cT zt _ rho hF' hvs hI.1 hI.2.1 hI.2.2.2.1 hI.2.2.2.2.1.self (Nat.le_refl _) (Nat.le_refl _)
  rw [← k4] at hK
  obtain ⟨t, st1, r, h', rho', o, Lc, k, n, hpost, hrun, hend, hout, hW, hsame, hpre, hlen', hok', hP', hD', hS', hc', hn'⟩ := hK ((T.setTop g).pushFrame (.java (entryFrame mk (vs.map (mm_v rho zt)).toArray ck.maxLocals))) rfl Y₀
  have st1' : Steps p.tables e below _ t := mm_steps_weaken (mid := [.java g]) st1
  obtain ⟨tl, rfl⟩ := hpre
  have hgrow : h.1.length ≤ h'.1.length := by rw [← hlen', ← hI.1, List.length_append]; omega
  rw [hin []]
  have hmI : ∀ T' : State, T'.heap = t.heap → mm_I R s D cT zt A nL (rho ++ tl) L h' T'.heap (locs ++ Lc) (cells + k) (slots + n) ls := by
    intro T' hT'
    rw [hT']
    refine ⟨hlen', hok', fun v hv => mm_ok_mono hgrow (hI.2.2.1 v hv), hP', hD'.weaken (fun _ q _ hq => hFA q.1 hq), ⟨Nat.le_trans hI.2.2.2.2.2.1.1 hS'.1, fun q h1 h2 => ?_, fun q hq => ?_⟩, hI.2.2.2.2.2.2.1.grow (fun v hv => by rw [hI.1]; exact hI.2.2.1 v hv), ?_, ?_⟩
    · rw [hS'.2.1 q (Nat.lt_of_lt_of_le h1 hI.2.2.2.2.2.1.1) (fun z => h2 (hFA q z))]
      exact hI.2.2.2.2.2.1.2.1 q h1 h2
    · rcases List.mem_append.mp hq with z | z
      · exact hI.2.2.2.2.2.1.2.2 q z
      · exact hFA _ (hS'.2.2 q z)
    · have : k + h'.2.1 ≤ h.2.1 := hc'
      omega
    · have : n + h'.2.2 ≤ h.2.2 := hn'
      omega
  cases r with
  | inl v =>
    obtain ⟨rfl, hv⟩ := hout
    obtain ⟨T', X', hW', hB', ht⟩ := X.outOf (g := g) (by rw [← hg]) (by rw [← hg]; exact hdg) hend hW hsame
    have hT' : T'.heap = t.heap := (congrArg State.heap ht).symm
    obtain ⟨t2, st2, q2⟩ := kk _ h' hpost (rho ++ tl) T'.heap (locs ++ Lc) (cells + k) (slots + n) ls (hp.trans (List.prefix_append _ _)) (fun w hw => by
      rcases List.mem_append.mp hw with z | z
      · exact hv w (by cases v with
          | none => simp at z
          | some y => simp at z; rw [z])
      · exact mm_ok_mono hgrow (hrest w z)) (hmI T' hT') T' rfl X'
    refine ⟨t2, st1'.trans ?_, q2⟩
    rw [ht, ← hg]
    have : (F0 m (pc + 3) ls ((v.toList ++ rest).map (mm_v (rho ++ tl) zt)) : JFrame) = { F0 m pc ls (rest.map (mm_v rho zt)) with pc := (F0 m pc ls (rest.map (mm_v rho zt))).pc + 3, stack := (v.map (mm_v (rho ++ tl) zt)).toList ++ (F0 m pc ls (rest.map (mm_v rho zt))).stack } := by
      have hm : rest.map (mm_v (rho ++ tl) zt) = rest.map (mm_v rho zt) := mm_map_app (fun w hw => by rw [hI.1]; exact hrest w hw)
      cases v with
      | none => simp [hm]
      | some w => simp [hm]
    rw [← this]
    exact st2
  | inr ex =>
    obtain ⟨x, rfl, hx2⟩ := hout
    obtain ⟨T', X', hW', hB', ht⟩ := X.outOfThrown (g := g) (by rw [← hg]) hend hW hsame
    have hT' : T'.heap = t.heap := (congrArg State.heap ht).symm
    have hV' : T'.vm = t.vm := (congrArg State.vm ht).symm
    obtain ⟨cell, c1, c2, c3⟩ := hx2
    obtain ⟨t2, st2, q2⟩ := kx ex h' T' (rho ++ tl) (locs ++ Lc) (cells + k) (slots + n) x hpost ⟨cell, by rw [hT']; exact c1, c2, by rw [hV']; exact c3⟩ (hp.trans (List.prefix_append _ _)) X' (hmI T' hT')
    refine ⟨t2, st1'.trans ?_, q2⟩
    rw [ht, ← hg]
    exact st2
/-- the callee mi, entered from the frame at pc, ends, and the caller (without handlers) goes on behind it, or is left too -/
theorem mm_thru {T : State} {locs : List Loc} {cells slots mi0 mi d : Nat} {rho : List Nat} {ls : Array Slot} {rest vs : List mm_V} {F : List mm_V → mm_H → Prop} {ig : Instr} (X : Stand p l e R s m args below meth c T locs cells slots) (hF : mm_F Z mi0 (d + 1) p e R s m meth c D cT zt A) (hnL : nL = mm_ml mi0)
    (hI : mm_I R s D cT zt A nL rho L h T.heap locs cells slots ls) (hp : rho0 <+: rho) (hrest : ∀ v ∈ rest, mm_ok h.1.length v) (hvs : ∀ v ∈ vs, mm_ok h.1.length v) (hlen : rest.length ≤ 12) (hdg : decode c.code pc = .ok (ig, 3))
    (hh0 : mm_hd mi0 = []) {mk : MethodId} (hspec : mm_spec s mi mk) (hpl : plainName (mm_nm mi).cls = true) (hmax : mm_ml mi ≤ 20)
    (hG : mm_G Z d mi vs h (mm_Kt Post F rest)) (kk : ∀ st h', F st h' → mm_W p l e R s m args below meth c (mm_End R s below D cT zt A rho0 Post) D cT zt A nL rho0 (pc + 3) L st h')
    (hnamed : s.methodNamed? (mm_nm mi) = some mk) :
    ∃ t, Steps p.tables e below (doInvoke e (T.setTop (F0 m pc ls (rest.map (mm_v rho zt)))) [] mk (vs.map (mm_v rho zt)).toArray).1 t ∧ mm_End R s below D cT zt A rho0 Post t := by
  have hex : c.exceptionTable.toList = [] := by
    have := hF.2.2.2.2.2.2.2.2.1
    rw [hh0] at this
    exact List.map_eq_nil_iff.mp this
  have hlk : meth.locks = false := hF.2.2.2.2.2.2.2.1
  refine mm_thru0 X hF hnL hI hp hrest hvs hlen hdg hspec hnamed hpl hmax hG (fun v h' hv => kk _ h' (by
    cases v with
    | none => exact hv
    | some w => exact hv)) (fun ex h' T' rho' locs' cells' slots' x hpost hthr hp' X' hJ => ?_)
  obtain ⟨w1, w2, w3, w4, w5⟩ := X'.leaveThrown x (g := F0 m pc ls (rest.map (mm_v rho zt))) rfl rfl rfl (by rw [hex]; intro y hy; cases hy) hlk
  exact ⟨T'.setFrames (.throwing x :: below), w1, .inr ex, h', rho', .threw x, locs', cells', slots', hpost, w2, w3, ⟨x, rfl, hthr⟩, w4, w5, hp', hJ.1, hJ.2.1, hJ.2.2.2.1, hJ.2.2.2.2.1, hJ.2.2.2.2.2.1, hJ.2.2.2.2.2.2.2.1, hJ.2.2.2.2.2.2.2.2⟩
end MC
