/-! FROM THE LAW'S CONTRACT TO ITS WALK -/
set_option maxRecDepth 100000 in
theorem mm_cd_law : mm_cd 167 = code := rfl
set_option maxRecDepth 100000 in
theorem mm_ml_law : mm_ml 167 = 7 := rfl
set_option maxRecDepth 100000 in
theorem mm_rt_law : mm_rt 167 = ret := rfl
set_option maxRecDepth 100000 in
theorem mm_nm_law : mm_nm 167 = ⟨"LispForgeLaw", "law", "([I)Z"⟩ := rfl
theorem mm_begin {p : Program} {e : Env} {s : State} {m : MethodId} {below : List Frame} {meth : Method} {c : Code} (l : Launch) {b L : Nat} {xs : Nat → Int32}
    (hx : p.tables.exec = Jvm.exec) (htr : e.platform.stackTraces = false) (hb : c.code = code) (hr : meth.sig.returnType = ret) (hml : c.maxLocals = 7) (hown : s.vm.findClass "LispForgeLaw" = some m.cls) (hnm : meth.name = "law") (hlk : meth.locks = false) (hex : c.exceptionTable.toList = [])
    (hts : ∀ w ∈ lw_tbl, w.before #[Value.ref b] s = true) (hX : va_X b L xs s s.heap) (hbl : b < s.heap.size) (hgv : (Jvm.Cond.and given_1 narrow_1).before #[Value.ref b] s = true)
    (hG : mm_G (mm_Zx L xs) 1300 167 [vZ 1] ([], (600002, 7302232)) (fun r _ => r = aX (vI 1))) :
    W p l e room_1 s m #[Value.ref b] below meth c s.heap [] 0 0 (fun t => ∃ o, t.status = .running ∧ Ended t below o ∧ o = .returned (some (.int 1)) ∧ Framed s o t [] 600002 7302232) (entryFrame m ([Value.ref b] : List Value).toArray 7) := by
  obtain ⟨D, cT, zt, hz, hT⟩ := mm_start_T hts hX hbl hgv
  have h := hG p l e room_1 s m below meth c D cT zt (fun q => s.heap.size ≤ q) [] ⟨hx, htr, by rw [mm_cd_law]; exact hb, by rw [mm_rt_law]; exact hr, by rw [mm_ml_law]; exact hml, by rw [mm_nm_law]; exact hown, by rw [mm_nm_law]; exact hnm, hlk, by rw [hex]; rfl, by decide, by decide, fun q hq => hq, hT⟩ (fun v hv => by simp only [List.mem_singleton] at hv; subst hv; trivial) rfl (fun x hx => by cases hx) (fun k q hk => by cases hk) ⟨fun i j p q hp => (by cases hp), fun k q hk => (by cases hk)⟩ (Nat.le_refl _) (Nat.le_refl _)
  have hargs : (([vZ 1] : List mm_V).map (mm_v [] zt)).toArray = #[Value.ref b] := by rw [← hz]; rfl
  rw [hargs, mm_ml_law] at h
  intro T hT' X
  obtain ⟨t, st, r, h', rho, o, Lc, k, n, hpost, hrun, hend, hout, hW, hsame, hpre, hlen, hok, hP, hD, hS, hc, hn⟩ := h T hT' X
  subst hpost
  obtain ⟨rfl, -⟩ := hout
  refine ⟨t, st, _, hrun, hend, rfl, ⟨_, rfl⟩, hW, ?_⟩
  have h1 : s.sameButNew ({ t with vm := s.vm } : State) ([] ++ Lc) k n := hsame
  refine (h1.drop_fresh (fun x hx => hS.2.2 x hx)).mono ?_ ?_
  · have : k + h'.2.1 ≤ 600002 := hc
    omega
  · have : n + h'.2.2 ≤ 7302232 := hn
    omega
