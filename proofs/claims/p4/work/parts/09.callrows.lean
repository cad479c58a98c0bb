section MCR
variable {Z : Nat → List Int32} {p : Program} {l : Launch} {e : Env} {R : Room} {s : State} {m : MethodId} {args : Array Value} {below : List Frame} {meth : Method} {c : Code} {Post : mm_A → mm_H → Prop} {D : va_G} {cT : Nat → ClassId} {zt : Nat → Nat} {A : Nat → Prop} {rho0 : List Nat} {pc : Nat} {L : mm_L} {h : mm_H}
theorem mm_len_of {y : MethodName} {n : Nat} (hn : (parseMethodDescriptor y.desc).map (fun d => d.parameters.length) = some n) : ∀ sig, parseMethodDescriptor y.desc = some sig → n = sig.parameters.length := fun sig h => by
  rw [h] at hn
  exact (Option.some.inj hn).symm
def mm_yok (y : MethodName) : Bool := plainName y.cls && y.cls != "java/lang/invoke/MethodHandle" && y.cls != "java/lang/invoke/VarHandle"
theorem mm_yok_of {y : MethodName} (h : mm_yok y = true) : plainName y.cls = true ∧ (y.cls ≠ "java/lang/invoke/MethodHandle" ∧ y.cls ≠ "java/lang/invoke/VarHandle") := by
  simp only [mm_yok, Bool.and_eq_true, bne_iff_ne] at h
  exact ⟨h.1.1, h.1.2, h.2⟩
theorem mr_callS {mi0 mi d idx : Nat} {vs rest : List mm_V} {F : List mm_V → mm_H → Prop} (hF : mm_F Z mi0 (d + 1) p e R s m meth c D cT zt A) (hl : (Jvm.Cond.methodLink (mm_nm mi0).cls idx (mm_nm mi)).before args s = true) (hstat : (Jvm.Cond.static (mm_nm mi)).before args s = true) (hini : (Jvm.Cond.initialized (mm_nm mi).cls).before args s = true) (hcode : Jvm.Cond.code (mm_nm mi) (mm_cd mi) (mm_ml mi) (mm_rt mi) ∈ lw_tbl) (hgc : mm_gd (Jvm.Cond.code (mm_nm mi) (mm_cd mi) (mm_ml mi) (mm_rt mi)) = true) (hyo : mm_yok (mm_nm mi) = true) (hmax : mm_ml mi ≤ 20) (hh0 : mm_hd mi0 = []) (hhk : mm_hd mi = []) (hn : (parseMethodDescriptor (mm_nm mi).desc).map (fun d => d.parameters.length) = some vs.length) (hlen : rest.length ≤ 12) (hd : decode (mm_cd mi0) pc = .ok (.invokestatic idx, 3)) (hG : mm_G Z d mi vs h (mm_Kt Post F rest)) (kk : ∀ st h', F st h' → mm_W p l e R s m args below meth c (mm_End R s below D cT zt A rho0 Post) D cT zt A (mm_ml mi0) rho0 (pc + 3) L st h') : mm_W p l e R s m args below meth c (mm_End R s below D cT zt A rho0 Post) D cT zt A (mm_ml mi0) rho0 pc L (vs.reverse ++ rest) h := by
  intro rho H locs cells slots ls hp hst hI T hT X
  obtain ⟨hx, htr, hb, hr, hml, hown, hnm, hlk, hex, hd1, hd2, hA, hTb⟩ := id hF
  obtain ⟨hpl, hy⟩ := mm_yok_of hyo
  have hcs : (Jvm.Cond.code (mm_nm mi) (mm_cd mi) (mm_ml mi) (mm_rt mi)).before #[] s = true := hTb.1 _ hcode hgc
  obtain ⟨mk, hnamed⟩ := Cond.code_named hcs
  obtain ⟨methM, cM, hmethM, -, -, -, -, -, -, hsigM⟩ := Cond.code_spec hnamed hcs
  have hstatic : methM.isStatic = true := Cond.static_spec hnamed hmethM hstat
  obtain ⟨kP, hkP, -⟩ := className_of_methodNamed hnamed
  have hinitP : kP.init = .initialized := Cond.initialized_spec (findClass_of_methodNamed hnamed) hkP hini
  obtain ⟨vm₁, X₁, hstep₁⟩ := X.invokestatic hx hown hl hnamed hmethM hstatic hkP hinitP hy (g := F0 m pc ls ((vs.reverse ++ rest).map (mm_v rho zt))) rfl (argsL := vs.map (mm_v rho zt)) (rest := rest.map (mm_v rho zt)) (by rw [List.length_map]; exact mm_len_of hn _ hsigM) (by simp) (by rw [hb]; exact hd)
  subst hT
  obtain ⟨t, st, q⟩ := mm_thru X₁ hF rfl hI hp (fun v hv => hst v (List.mem_append_right _ hv)) (fun v hv => hst v (List.mem_append_left _ (List.mem_reverse.mpr hv))) hlen (by rw [hb]; exact hd) hh0 (mm_spec_of hhk hnamed (hTb.1 _ hcode hgc)) hpl hmax hG kk hnamed
  exact ⟨t, hstep₁ t (fun acts => by rw [doInvoke_state]; exact st), q⟩
theorem mr_callI {mi0 mi d idx : Nat} {a : Nat} {as rest : List mm_V} {F : List mm_V → mm_H → Prop} (hF : mm_F Z mi0 (d + 1) p e R s m meth c D cT zt A) (hl : (Jvm.Cond.methodLink (mm_nm mi0).cls idx (mm_nm mi)).before args s = true) (hinst : (Jvm.Cond.instanceMethod (mm_nm mi)).before args s = true) (hcode : Jvm.Cond.code (mm_nm mi) (mm_cd mi) (mm_ml mi) (mm_rt mi) ∈ lw_tbl) (hgc : mm_gd (Jvm.Cond.code (mm_nm mi) (mm_cd mi) (mm_ml mi) (mm_rt mi)) = true) (hyo : mm_yok (mm_nm mi) = true) (hmax : mm_ml mi ≤ 20) (hh0 : mm_hd mi0 = []) (hhk : mm_hd mi = []) (hin : (mm_nm mi).name = "<init>") (hrt : mm_rt mi = none) (hn : (parseMethodDescriptor (mm_nm mi).desc).map (fun d => d.parameters.length) = some as.length) (hlen : rest.length ≤ 12) (hd : decode (mm_cd mi0) pc = .ok (.invokespecial idx, 3)) (hG : mm_G Z d mi (vR a :: as) h (mm_Kt Post F rest)) (kk : ∀ st h', F st h' → mm_W p l e R s m args below meth c (mm_End R s below D cT zt A rho0 Post) D cT zt A (mm_ml mi0) rho0 (pc + 3) L st h') : mm_W p l e R s m args below meth c (mm_End R s below D cT zt A rho0 Post) D cT zt A (mm_ml mi0) rho0 pc L ((vR a :: as).reverse ++ rest) h := by
  intro rho H locs cells slots ls hp hst hI T hT X
  obtain ⟨hx, htr, hb, hr, hml, hown, hnm, hlk, hex, hd1, hd2, hA, hTb⟩ := id hF
  obtain ⟨hpl, hy⟩ := mm_yok_of hyo
  have hcs : (Jvm.Cond.code (mm_nm mi) (mm_cd mi) (mm_ml mi) none).before args s = true := by
    rw [← hrt]
    exact mm_gd_args hgc (hTb.1 _ hcode hgc)
  have hpm : e.platform.magicAccessors = ({} : Platform).magicAccessors := by rw [X.admits.platform]
  obtain ⟨mk, methM, cM, kP, vm₁, hnamed, hmethM, hcodeM, -, hlocalsM, -, hkP, -, hW₁, hstep₁⟩ := Steps.initColdArgs (e := e) X.here hx X.warmed hpm hown hin hy hl hinst hcs (f := F0 m pc ls (((vR a :: as).reverse ++ rest).map (mm_v rho zt))) rfl (a := rho.getD a 0) (argsL := as.map (mm_v rho zt)) (rest := rest.map (mm_v rho zt)) (by rw [List.length_map]; exact mm_len_of hn) (by simp [mm_v]) (by rw [hb]; exact hd)
  have X₁ := X.noted hW₁
  subst hT
  obtain ⟨t, st, q⟩ := mm_thru X₁ hF rfl hI hp (fun v hv => hst v (List.mem_append_right _ hv)) (vs := vR a :: as) (fun v hv => hst v (List.mem_append_left _ (List.mem_reverse.mpr hv))) hlen (by rw [hb]; exact hd) hh0 (mm_spec_of hhk hnamed (hTb.1 _ hcode hgc)) hpl hmax hG kk hnamed
  exact ⟨t, hstep₁ t (fun acts => by rw [doInvoke_state]; exact st), q⟩
theorem mr_callSN {mi0 mi d idx : Nat} {host : String} {vs rest : List mm_V} {F : List mm_V → mm_H → Prop} (hF : mm_F Z mi0 (d + 1) p e R s m meth c D cT zt A) (hl : (Jvm.Cond.methodLinkNest (mm_nm mi0).cls idx (mm_nm mi) host).before args s = true) (hstat : (Jvm.Cond.static (mm_nm mi)).before args s = true) (hini : (Jvm.Cond.initialized (mm_nm mi).cls).before args s = true) (hcode : Jvm.Cond.code (mm_nm mi) (mm_cd mi) (mm_ml mi) (mm_rt mi) ∈ lw_tbl) (hgc : mm_gd (Jvm.Cond.code (mm_nm mi) (mm_cd mi) (mm_ml mi) (mm_rt mi)) = true) (hyo : mm_yok (mm_nm mi) = true) (hmax : mm_ml mi ≤ 20) (hh0 : mm_hd mi0 = []) (hhk : mm_hd mi = []) (hn : (parseMethodDescriptor (mm_nm mi).desc).map (fun d => d.parameters.length) = some vs.length) (hlen : rest.length ≤ 12) (hd : decode (mm_cd mi0) pc = .ok (.invokestatic idx, 3)) (hG : mm_G Z d mi vs h (mm_Kt Post F rest)) (kk : ∀ st h', F st h' → mm_W p l e R s m args below meth c (mm_End R s below D cT zt A rho0 Post) D cT zt A (mm_ml mi0) rho0 (pc + 3) L st h') : mm_W p l e R s m args below meth c (mm_End R s below D cT zt A rho0 Post) D cT zt A (mm_ml mi0) rho0 pc L (vs.reverse ++ rest) h := by
  intro rho H locs cells slots ls hp hst hI T hT X
  obtain ⟨hx, htr, hb, hr, hml, hown, hnm, hlk, hex, hd1, hd2, hA, hTb⟩ := id hF
  obtain ⟨hpl, hy⟩ := mm_yok_of hyo
  have hcs : (Jvm.Cond.code (mm_nm mi) (mm_cd mi) (mm_ml mi) (mm_rt mi)).before #[] s = true := hTb.1 _ hcode hgc
  obtain ⟨mk, hnamed⟩ := Cond.code_named hcs
  obtain ⟨methM, cM, hmethM, -, -, -, -, -, -, hsigM⟩ := Cond.code_spec hnamed hcs
  have hstatic : methM.isStatic = true := Cond.static_spec hnamed hmethM hstat
  obtain ⟨kP, hkP, -⟩ := className_of_methodNamed hnamed
  have hinitP : kP.init = .initialized := Cond.initialized_spec (findClass_of_methodNamed hnamed) hkP hini
  obtain ⟨vm₁, X₁, hstep₁⟩ := X.invokestaticNest hx hown hl hnamed hmethM hstatic hkP hinitP hy (g := F0 m pc ls ((vs.reverse ++ rest).map (mm_v rho zt))) rfl (argsL := vs.map (mm_v rho zt)) (rest := rest.map (mm_v rho zt)) (by rw [List.length_map]; exact mm_len_of hn _ hsigM) (by simp) (by rw [hb]; exact hd)
  subst hT
  obtain ⟨t, st, q⟩ := mm_thru X₁ hF rfl hI hp (fun v hv => hst v (List.mem_append_right _ hv)) (fun v hv => hst v (List.mem_append_left _ (List.mem_reverse.mpr hv))) hlen (by rw [hb]; exact hd) hh0 (mm_spec_of hhk hnamed (hTb.1 _ hcode hgc)) hpl hmax hG kk hnamed
  exact ⟨t, hstep₁ t (fun acts => by rw [doInvoke_state]; exact st), q⟩
theorem mr_callIN {mi0 mi d idx : Nat} {host : String} {a : Nat} {as rest : List mm_V} {F : List mm_V → mm_H → Prop} (hF : mm_F Z mi0 (d + 1) p e R s m meth c D cT zt A) (hl : (Jvm.Cond.methodLinkNest (mm_nm mi0).cls idx (mm_nm mi) host).before args s = true) (hinst : (Jvm.Cond.instanceMethod (mm_nm mi)).before args s = true) (hcode : Jvm.Cond.code (mm_nm mi) (mm_cd mi) (mm_ml mi) (mm_rt mi) ∈ lw_tbl) (hgc : mm_gd (Jvm.Cond.code (mm_nm mi) (mm_cd mi) (mm_ml mi) (mm_rt mi)) = true) (hyo : mm_yok (mm_nm mi) = true) (hmax : mm_ml mi ≤ 20) (hh0 : mm_hd mi0 = []) (hhk : mm_hd mi = []) (hin : (mm_nm mi).name = "<init>") (hrt : mm_rt mi = none) (hn : (parseMethodDescriptor (mm_nm mi).desc).map (fun d => d.parameters.length) = some as.length) (hlen : rest.length ≤ 12) (hd : decode (mm_cd mi0) pc = .ok (.invokespecial idx, 3)) (hG : mm_G Z d mi (vR a :: as) h (mm_Kt Post F rest)) (kk : ∀ st h', F st h' → mm_W p l e R s m args below meth c (mm_End R s below D cT zt A rho0 Post) D cT zt A (mm_ml mi0) rho0 (pc + 3) L st h') : mm_W p l e R s m args below meth c (mm_End R s below D cT zt A rho0 Post) D cT zt A (mm_ml mi0) rho0 pc L ((vR a :: as).reverse ++ rest) h := by
  intro rho H locs cells slots ls hp hst hI T hT X
  obtain ⟨hx, htr, hb, hr, hml, hown, hnm, hlk, hex, hd1, hd2, hA, hTb⟩ := id hF
  obtain ⟨hpl, hy⟩ := mm_yok_of hyo
  have hcs : (Jvm.Cond.code (mm_nm mi) (mm_cd mi) (mm_ml mi) none).before args s = true := by
    rw [← hrt]
    exact mm_gd_args hgc (hTb.1 _ hcode hgc)
  have hpm : e.platform.magicAccessors = ({} : Platform).magicAccessors := by rw [X.admits.platform]
  obtain ⟨mk, methM, cM, kP, vm₁, hnamed, hmethM, hcodeM, -, hlocalsM, -, hkP, -, hW₁, hstep₁⟩ := Steps.initColdArgsNest (e := e) X.here hx X.warmed hpm hown hin hy hl hinst hcs (f := F0 m pc ls (((vR a :: as).reverse ++ rest).map (mm_v rho zt))) rfl (a := rho.getD a 0) (argsL := as.map (mm_v rho zt)) (rest := rest.map (mm_v rho zt)) (by rw [List.length_map]; exact mm_len_of hn) (by simp [mm_v]) (by rw [hb]; exact hd)
  have X₁ := X.noted hW₁
  subst hT
  obtain ⟨t, st, q⟩ := mm_thru X₁ hF rfl hI hp (fun v hv => hst v (List.mem_append_right _ hv)) (vs := vR a :: as) (fun v hv => hst v (List.mem_append_left _ (List.mem_reverse.mpr hv))) hlen (by rw [hb]; exact hd) hh0 (mm_spec_of hhk hnamed (hTb.1 _ hcode hgc)) hpl hmax hG kk hnamed
  exact ⟨t, hstep₁ t (fun acts => by rw [doInvoke_state]; exact st), q⟩
theorem mr_callV {mi0 mi d idx ci : Nat} {a : Nat} {as rest : List mm_V} {fs : List mm_V} {q : vw_C} {F : List mm_V → mm_H → Prop} (hF : mm_F Z mi0 (d + 1) p e R s m meth c D cT zt A) (hl : (Jvm.Cond.methodLink (mm_nm mi0).cls idx (mm_nm mi)).before args s = true) (hinst : (Jvm.Cond.instanceMethod (mm_nm mi)).before args s = true) (hsel : (Jvm.Cond.selects q.1 (mm_nm mi) (mm_nm mi)).before args s = true) (hcode : Jvm.Cond.code (mm_nm mi) (mm_cd mi) (mm_ml mi) (mm_rt mi) ∈ lw_tbl) (hgc : mm_gd (Jvm.Cond.code (mm_nm mi) (mm_cd mi) (mm_ml mi) (mm_rt mi)) = true) (hyo : mm_yok (mm_nm mi) = true) (hmax : mm_ml mi ≤ 20) (hh0 : mm_hd mi0 = []) (hhk : mm_hd mi = []) (hq : vwCl[ci]? = some q) (ha : h.1[a]? = some (.inl (ci, fs))) (hn : (parseMethodDescriptor (mm_nm mi).desc).map (fun d => d.parameters.length) = some as.length) (hlen : rest.length ≤ 12) (hd : decode (mm_cd mi0) pc = .ok (.invokevirtual idx, 3)) (hG : mm_G Z d mi (vR a :: as) h (mm_Kt Post F rest)) (kk : ∀ st h', F st h' → mm_W p l e R s m args below meth c (mm_End R s below D cT zt A rho0 Post) D cT zt A (mm_ml mi0) rho0 (pc + 3) L st h') : mm_W p l e R s m args below meth c (mm_End R s below D cT zt A rho0 Post) D cT zt A (mm_ml mi0) rho0 pc L ((vR a :: as).reverse ++ rest) h := by
  intro rho H locs cells slots ls hp hst hI T hT X
  obtain ⟨hx, htr, hb, hr, hml, hown, hnm, hlk, hex, hd1, hd2, hA, hTb⟩ := id hF
  obtain ⟨hpl, hy⟩ := mm_yok_of hyo
  have hcs : (Jvm.Cond.code (mm_nm mi) (mm_cd mi) (mm_ml mi) (mm_rt mi)).before #[] s = true := hTb.1 _ hcode hgc
  obtain ⟨cellB, hcB, hoB, hclB⟩ := va_recv hTb.2.1 hI.2.2.2.1 hq (mm_at hI ha)
  obtain ⟨mk, methM, hnamed, hmethM, hstM, habM⟩ := Cond.instanceMethod_spec hinst
  obtain ⟨methM', cM, hmethM', -, -, -, -, -, -, hsigM⟩ := Cond.code_spec hnamed hcs
  cases hmethM.symm.trans hmethM'
  obtain ⟨c2, r2, m2, q1, q2, q3, q4, kP, hkP, hkPi⟩ := Cond.selects_spec hsel
  cases hclB.symm.trans q1
  cases (State.methodFound?_of_named hnamed hy).symm.trans q2
  cases hnamed.symm.trans q3
  have hselP : selectMethod e.platform s.vm cellB.cls mk = .method mk := by rw [Launch.admits_selectMethod X.admits]; exact q4
  subst hT
  obtain ⟨vm₁, X₁, hstep₁⟩ := X.invokevirtual hx hown hl hnamed hmethM hstM hkP hkPi hy (a := rho.getD a 0) (cell := cellB) hcB (fun z h => by rw [h] at hoB; cases hoB) hselP hmethM habM hkP hkPi (g := F0 m pc ls (((vR a :: as).reverse ++ rest).map (mm_v rho zt))) rfl (argsL := as.map (mm_v rho zt)) (rest := rest.map (mm_v rho zt)) (by rw [List.length_map]; exact mm_len_of hn _ hsigM) (by simp [mm_v]) (by rw [hb]; exact hd)
  obtain ⟨t, st, q⟩ := mm_thru X₁ hF rfl hI hp (fun v hv => hst v (List.mem_append_right _ hv)) (vs := vR a :: as) (fun v hv => hst v (List.mem_append_left _ (List.mem_reverse.mpr hv))) hlen (by rw [hb]; exact hd) hh0 (mm_spec_of hhk hnamed (hTb.1 _ hcode hgc)) hpl hmax hG kk hnamed
  exact ⟨t, hstep₁ t (fun acts => by rw [doInvoke_state]; exact st), q⟩
theorem mr_callSW {mi0 mi d idx : Nat} {vs rest : List mm_V} {F : List mm_V → mm_H → Prop} (hF : mm_F Z mi0 (d + 1) p e R s m meth c D cT zt A) (hl : (Jvm.Cond.methodLink (mm_nm mi0).cls idx (mm_nm mi)).before args s = true) (hstat : (Jvm.Cond.static (mm_nm mi)).before args s = true) (hini : (Jvm.Cond.initialized (mm_nm mi).cls).before args s = true) (hcode : Jvm.Cond.codeWith (mm_nm mi) (mm_cd mi) (mm_ml mi) (mm_rt mi) (mm_hd mi) ∈ lw_tbl) (hgc : mm_gd (Jvm.Cond.codeWith (mm_nm mi) (mm_cd mi) (mm_ml mi) (mm_rt mi) (mm_hd mi)) = true) (hyo : mm_yok (mm_nm mi) = true) (hmax : mm_ml mi ≤ 20) (hh0 : mm_hd mi0 = []) (hn : (parseMethodDescriptor (mm_nm mi).desc).map (fun d => d.parameters.length) = some vs.length) (hlen : rest.length ≤ 12) (hd : decode (mm_cd mi0) pc = .ok (.invokestatic idx, 3)) (hG : mm_G Z d mi vs h (mm_Kt Post F rest)) (kk : ∀ st h', F st h' → mm_W p l e R s m args below meth c (mm_End R s below D cT zt A rho0 Post) D cT zt A (mm_ml mi0) rho0 (pc + 3) L st h') : mm_W p l e R s m args below meth c (mm_End R s below D cT zt A rho0 Post) D cT zt A (mm_ml mi0) rho0 pc L (vs.reverse ++ rest) h := by
  intro rho H locs cells slots ls hp hst hI T hT X
  obtain ⟨hx, htr, hb, hr, hml, hown, hnm, hlk, hex, hd1, hd2, hA, hTb⟩ := id hF
  obtain ⟨hpl, hy⟩ := mm_yok_of hyo
  have hcs : (Jvm.Cond.codeWith (mm_nm mi) (mm_cd mi) (mm_ml mi) (mm_rt mi) (mm_hd mi)).before #[] s = true := hTb.1 _ hcode hgc
  obtain ⟨mk, methM, cM, hnamed, hmethM, -, -, -, -, -, -, hsigM⟩ := Cond.codeWith_spec hcs
  have hstatic : methM.isStatic = true := Cond.static_spec hnamed hmethM hstat
  obtain ⟨kP, hkP, -⟩ := className_of_methodNamed hnamed
  have hinitP : kP.init = .initialized := Cond.initialized_spec (findClass_of_methodNamed hnamed) hkP hini
  obtain ⟨vm₁, X₁, hstep₁⟩ := X.invokestatic hx hown hl hnamed hmethM hstatic hkP hinitP hy (g := F0 m pc ls ((vs.reverse ++ rest).map (mm_v rho zt))) rfl (argsL := vs.map (mm_v rho zt)) (rest := rest.map (mm_v rho zt)) (by rw [List.length_map]; exact mm_len_of hn _ hsigM) (by simp) (by rw [hb]; exact hd)
  subst hT
  obtain ⟨t, st, q⟩ := mm_thru X₁ hF rfl hI hp (fun v hv => hst v (List.mem_append_right _ hv)) (fun v hv => hst v (List.mem_append_left _ (List.mem_reverse.mpr hv))) hlen (by rw [hb]; exact hd) hh0 (mm_spec_with hnamed hcs) hpl hmax hG kk hnamed
  exact ⟨t, hstep₁ t (fun acts => by rw [doInvoke_state]; exact st), q⟩
theorem mr_callVC {mi0 mi d idx ci : Nat} {a : Nat} {as rest : List mm_V} {fs : List mm_V} {q : vw_C} {G0 : mm_A → mm_H → Prop} (hF : mm_F Z mi0 (d + 1) p e R s m meth c D cT zt A) (hl : (Jvm.Cond.methodLink (mm_nm mi0).cls idx (mm_nm mi)).before args s = true) (hinst : (Jvm.Cond.instanceMethod (mm_nm mi)).before args s = true) (hsel : (Jvm.Cond.selects q.1 (mm_nm mi) (mm_nm mi)).before args s = true) (hcode : Jvm.Cond.code (mm_nm mi) (mm_cd mi) (mm_ml mi) (mm_rt mi) ∈ lw_tbl) (hgc : mm_gd (Jvm.Cond.code (mm_nm mi) (mm_cd mi) (mm_ml mi) (mm_rt mi)) = true) (hyo : mm_yok (mm_nm mi) = true) (hmax : mm_ml mi ≤ 20) (hhk : mm_hd mi = []) (hq : vwCl[ci]? = some q) (ha : h.1[a]? = some (.inl (ci, fs))) (hn : (parseMethodDescriptor (mm_nm mi).desc).map (fun d => d.parameters.length) = some as.length) (hlen : rest.length ≤ 12) (hd : decode (mm_cd mi0) pc = .ok (.invokevirtual idx, 3)) (hG : mm_G Z d mi (vR a :: as) h G0) (kk : ∀ v h', G0 (.inl v) h' → mm_W p l e R s m args below meth c (mm_End R s below D cT zt A rho0 Post) D cT zt A (mm_ml mi0) rho0 (pc + 3) L (v.toList ++ rest) h') (kx : ∀ ex h' T' rho' locs' cells' slots' x ls stk, G0 (.inr ex) h' → mm_thr x (mm_ex ex) T' → rho0 <+: rho' → Stand p l e R s m args below meth c T' locs' cells' slots' → mm_I R s D cT zt A (mm_ml mi0) rho' L h' T'.heap locs' cells' slots' ls → ∃ t, Steps p.tables e below ((T'.setTop (F0 m pc ls stk)).pushFrame (.throwing x)) t ∧ mm_End R s below D cT zt A rho0 Post t) : mm_W p l e R s m args below meth c (mm_End R s below D cT zt A rho0 Post) D cT zt A (mm_ml mi0) rho0 pc L ((vR a :: as).reverse ++ rest) h := by
  intro rho H locs cells slots ls hp hst hI T hT X
  obtain ⟨hx, htr, hb, hr, hml, hown, hnm, hlk, hex, hd1, hd2, hA, hTb⟩ := id hF
  obtain ⟨hpl, hy⟩ := mm_yok_of hyo
  have hcs : (Jvm.Cond.code (mm_nm mi) (mm_cd mi) (mm_ml mi) (mm_rt mi)).before #[] s = true := hTb.1 _ hcode hgc
  obtain ⟨cellB, hcB, hoB, hclB⟩ := va_recv hTb.2.1 hI.2.2.2.1 hq (mm_at hI ha)
  obtain ⟨mk, methM, hnamed, hmethM, hstM, habM⟩ := Cond.instanceMethod_spec hinst
  obtain ⟨methM', cM, hmethM', -, -, -, -, -, -, hsigM⟩ := Cond.code_spec hnamed hcs
  cases hmethM.symm.trans hmethM'
  obtain ⟨c2, r2, m2, q1, q2, q3, q4, kP, hkP, hkPi⟩ := Cond.selects_spec hsel
  cases hclB.symm.trans q1
  cases (State.methodFound?_of_named hnamed hy).symm.trans q2
  cases hnamed.symm.trans q3
  have hselP : selectMethod e.platform s.vm cellB.cls mk = .method mk := by rw [Launch.admits_selectMethod X.admits]; exact q4
  subst hT
  obtain ⟨vm₁, X₁, hstep₁⟩ := X.invokevirtual hx hown hl hnamed hmethM hstM hkP hkPi hy (a := rho.getD a 0) (cell := cellB) hcB (fun z h => by rw [h] at hoB; cases hoB) hselP hmethM habM hkP hkPi (g := F0 m pc ls (((vR a :: as).reverse ++ rest).map (mm_v rho zt))) rfl (argsL := as.map (mm_v rho zt)) (rest := rest.map (mm_v rho zt)) (by rw [List.length_map]; exact mm_len_of hn _ hsigM) (by simp [mm_v]) (by rw [hb]; exact hd)
  obtain ⟨t, st, q⟩ := mm_thru0 X₁ hF rfl hI hp (fun v hv => hst v (List.mem_append_right _ hv)) (vs := vR a :: as) (fun v hv => hst v (List.mem_append_left _ (List.mem_reverse.mpr hv))) hlen (by rw [hb]; exact hd) (mm_spec_of hhk hnamed (hTb.1 _ hcode hgc)) hnamed hpl hmax hG kk (fun ex h' T' rho' locs' cells' slots' x => kx ex h' T' rho' locs' cells' slots' x ls _)
  exact ⟨t, hstep₁ t (fun acts => by rw [doInvoke_state]; exact st), q⟩
end MCR
