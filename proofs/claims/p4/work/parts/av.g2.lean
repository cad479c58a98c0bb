/-! A CALL WHOSE EXCEPTION IS CAUGHT by the first row of the caller's table: handler, a number, return -/
theorem mm_catchP {Z : Nat → List Int32} {d mi k pc idx i0 i1 i2 i4 i5 i6 a hp ct ex : Nat} {sl : Fin 4} {n : Int} {x0 : Int32} {as rest fs : List mm_V} {L : mm_L} {h : mm_H} {q : vw_C} {G0 Post : mm_A → mm_H → Prop} {s0 e0 : Nat} {tl : List (Nat × Nat × Nat × Nat)}
    (hd : decode (mm_cd mi) pc = .ok (.invokevirtual idx, 3)) (w0 : mm_wq i0 (.methodLink (mm_own mi) idx (mm_nm k)) = true) (w1 : mm_wq i1 (.instanceMethod (mm_nm k)) = true) (w2 : mm_wq i2 (.selects q.1 (mm_nm k) (mm_nm k)) = true) (w4 : mm_wq i4 (mm_codeW k) = true) (hyo : mm_yok (mm_nm k) = true) (hmax : mm_ml k ≤ 20) (hhk : mm_hd k = []) (hn : mm_pars k = some as.length) (hq : vwCl[mm_ci k]? = some q) (ha : h.1[a]? = some (.inl (mm_ci k, fs))) (hlen : rest.length ≤ 12)
    (hG : mm_G Z d k (vR a :: as) h G0) (kk : ∀ v h', G0 (.inl v) h' → mm_P Z (d + 1) mi (pc + 3) L (v.toList ++ rest) h' Post)
    (hh : mm_hd mi = (s0, e0, hp, ct) :: tl) (hc1 : s0 ≤ pc) (hc2 : pc < e0) (hct : ct ≠ 0) (w5 : mm_wq i5 (.classLink (mm_own mi) ct (mm_ex ex)) = true) (w6 : mm_wq i6 (.castable (mm_ex ex) (mm_ex ex)) = true)
    (hx0 : ∀ e' h', G0 (.inr e') h' → e' = ex ∧ Post (aX (vI x0)) h')
    (dA : decode (mm_cd mi) hp = .ok (.astore_n sl, 1)) (dI : decode (mm_cd mi) (hp + 1) = .ok (.iconst n, 1)) (hv : Int32.ofInt n = x0) (dR : decode (mm_cd mi) (hp + 1 + 1) = .ok (.ireturn, 1)) (hrt : mm_rt mi = some .int) (hsl : sl.val < mm_ml mi) :
    mm_P Z (d + 1) mi pc L ((vR a :: as).reverse ++ rest) h Post := by
  intro p l e R s m args below meth c D cT zt A rho0 hF
  obtain ⟨hx, htr, hb, hr, hml, hown, hnm, hlk, hex, hd1, hd2, hA, hTb⟩ := id hF
  obtain ⟨c1, c2⟩ := mm_wq_of w4
  refine mr_callVC hF (mm_wq_before w0 hTb) (mm_wq_before w1 hTb) (mm_wq_before w2 hTb) c1 c2 hyo hmax hhk hq ha hn hlen hd hG (fun v h' hv => kk v h' hv p l e R s m args below meth c D cT zt A rho0 hF) (fun ex' h' T' rho' locs' cells' slots' x ls stk hg hthr hp' X' hJ => ?_)
  obtain ⟨rfl, hpost⟩ := hx0 _ _ hg
  obtain ⟨cell, t1, t2, t3⟩ := hthr
  rw [hh] at hex
  obtain ⟨xe, xr, hxe, hxs, -⟩ := List.map_eq_cons_iff.mp hex
  simp only [mm_et, Prod.mk.injEq] at hxs
  obtain ⟨e1, e2, e3, e4⟩ := hxs
  obtain ⟨cc1, cc2, k1, k2, k3⟩ := Cond.castable_spec (mm_wq_before (args := args) w6 hTb)
  rw [X'.warmed.alike.findClass] at t3
  have hcls : cell.cls = cc1 := Option.some.inj (t3.symm.trans k1)
  obtain ⟨vm', XV, stV⟩ := X'.caughtLink x (g := F0 m pc ls stk) rfl hown [] xe xr hxe (fun y hy => by cases hy) (by simp [covers, e1, e2, hc1, hc2]) (by rw [e4]; exact hct) (by rw [e4]; exact mm_wq_before w5 hTb) k2 t1 t2 (by rw [hcls]; exact k3)
  rw [X'.pushThrowing_eq]
  have hWk : W p l e R s m args below meth c T'.heap locs' cells' slots' (mm_End R s below D cT zt A rho0 Post) (F0 m hp ls [.ref x]) := by
    refine lv_astore_n hx hb dA rfl hJ.2.2.2.2.2.2.1.has hsl rfl fun ls' hl' => ?_
    have hI' : mm_I R s D cT zt A (mm_ml mi) rho' (List.replicate (mm_ml mi) none) h' T'.heap locs' cells' slots' ls' := ⟨hJ.1, hJ.2.1, fun v hv => by simp at hv, hJ.2.2.2.1, hJ.2.2.2.2.1, hJ.2.2.2.2.2.1, ⟨by simp, hl'.1, hl'.2.1, fun i v hi => by simp [List.getElem?_replicate] at hi⟩, hJ.2.2.2.2.2.2.2.1, hJ.2.2.2.2.2.2.2.2⟩
    exact mr_iconst hx hb dI hv (mr_iret hx hb (by rw [hr, hrt]) rfl hlk dR hpost) rho' T'.heap locs' cells' slots' ls' hp' (fun v hv => by cases hv) hI'
  obtain ⟨t, a1, a2⟩ := hWk (T'.setVm vm') rfl XV
  refine ⟨t, stV t ?_, a2⟩
  rw [e3]
  exact a1
/-! A CALL WHOSE EXCEPTION IS CAUGHT by one of three rows -/
theorem mm_catch3 {Z : Nat → List Int32} {d mi k pc idx i0 i1 i2 i4 a h0 h1 h2 t0 t1 t2 u0 u1 u2 v0 v1 v2 : Nat} {sl : Fin 4} {n0 n1 n2 : Int} {as rest fs : List mm_V} {L : mm_L} {h : mm_H} {q : vw_C} {G0 Post : mm_A → mm_H → Prop} {s0 e0 : Nat}
    (hd : decode (mm_cd mi) pc = .ok (.invokevirtual idx, 3)) (w0 : mm_wq i0 (.methodLink (mm_own mi) idx (mm_nm k)) = true) (w1 : mm_wq i1 (.instanceMethod (mm_nm k)) = true) (w2 : mm_wq i2 (.selects q.1 (mm_nm k) (mm_nm k)) = true) (w4 : mm_wq i4 (mm_codeW k) = true) (hyo : mm_yok (mm_nm k) = true) (hmax : mm_ml k ≤ 20) (hhk : mm_hd k = []) (hn : mm_pars k = some as.length) (hq : vwCl[mm_ci k]? = some q) (ha : h.1[a]? = some (.inl (mm_ci k, fs))) (hlen : rest.length ≤ 12)
    (hG : mm_G Z d k (vR a :: as) h G0) (kk : ∀ v h', G0 (.inl v) h' → mm_P Z (d + 1) mi (pc + 3) L (v.toList ++ rest) h' Post)
    (hh : mm_hd mi = [(s0, e0, h0, t0), (s0, e0, h1, t1), (s0, e0, h2, t2)]) (hc1 : s0 ≤ pc) (hc2 : pc < e0) (hct : t0 ≠ 0 ∧ t1 ≠ 0 ∧ t2 ≠ 0)
    (a0 : mm_wq u0 (.classLink (mm_own mi) t0 (mm_ex 0)) = true) (a1 : mm_wq u1 (.classLink (mm_own mi) t1 (mm_ex 1)) = true) (a2 : mm_wq u2 (.classLink (mm_own mi) t2 (mm_ex 2)) = true)
    (b0 : mm_wq v0 (.castable (mm_ex 0) (mm_ex 0)) = true) (b1 : mm_wq v1 (.castable (mm_ex 1) (mm_ex 1)) = true) (b2 : mm_wq v2 (.castable (mm_ex 2) (mm_ex 2)) = true)
    (hx0 : ∀ e' h', G0 (.inr e') h' → e' < 3 ∧ ∀ x, Post (aX (vI x)) h')
    (dA : decode (mm_cd mi) h0 = .ok (.astore_n sl, 1) ∧ decode (mm_cd mi) (h0 + 1) = .ok (.iconst n0, 1) ∧ decode (mm_cd mi) (h0 + 1 + 1) = .ok (.ireturn, 1))
    (dB : decode (mm_cd mi) h1 = .ok (.astore_n sl, 1) ∧ decode (mm_cd mi) (h1 + 1) = .ok (.iconst n1, 1) ∧ decode (mm_cd mi) (h1 + 1 + 1) = .ok (.ireturn, 1))
    (dC : decode (mm_cd mi) h2 = .ok (.astore_n sl, 1) ∧ decode (mm_cd mi) (h2 + 1) = .ok (.iconst n2, 1) ∧ decode (mm_cd mi) (h2 + 1 + 1) = .ok (.ireturn, 1))
    (hrt : mm_rt mi = some .int) (hsl : sl.val < mm_ml mi) :
    mm_P Z (d + 1) mi pc L ((vR a :: as).reverse ++ rest) h Post := by
  intro p l e R s m args below meth c D cT zt A rho0 hF
  obtain ⟨hx, htr, hb, hr, hml, hown, hnm, hlk, hex, hd1, hd2, hA, hTb⟩ := id hF
  obtain ⟨c1, c2⟩ := mm_wq_of w4
  refine mr_callVC hF (mm_wq_before w0 hTb) (mm_wq_before w1 hTb) (mm_wq_before w2 hTb) c1 c2 hyo hmax hhk hq ha hn hlen hd hG (fun v h' hv => kk v h' hv p l e R s m args below meth c D cT zt A rho0 hF) (fun ex' h' T' rho' locs' cells' slots' x ls stk hg hthr hp' X' hJ => ?_)
  obtain ⟨hlt, hpost⟩ := hx0 _ _ hg
  obtain ⟨cell, k1, k2, k3⟩ := hthr
  rw [hh] at hex
  obtain ⟨x0, xr, hxe, hx0s, hex⟩ := List.map_eq_cons_iff.mp hex
  obtain ⟨x1, xr1, hxe1, hx1s, hex⟩ := List.map_eq_cons_iff.mp hex
  obtain ⟨x2, xr2, hxe2, hx2s, hex⟩ := List.map_eq_cons_iff.mp hex
  simp only [mm_et, Prod.mk.injEq] at hx0s hx1s hx2s
  obtain ⟨p1, p2, p3, p4⟩ := hx0s
  obtain ⟨q1, q2, q3, q4⟩ := hx1s
  obtain ⟨r1, r2, r3, r4⟩ := hx2s
  subst hxe1 hxe2
  rw [X'.warmed.alike.findClass] at k3
  have hpl : e.platform.magicAccessors = ({} : Platform).magicAccessors := by rw [X'.admits.platform]
  obtain ⟨C0, f0, l0⟩ := Cond.classLink_spec hown (mm_wq_before (args := args) a0 hTb) e.platform hpl
  obtain ⟨C1, f1, l1⟩ := Cond.classLink_spec hown (mm_wq_before (args := args) a1 hTb) e.platform hpl
  obtain ⟨C2, f2, l2⟩ := Cond.classLink_spec hown (mm_wq_before (args := args) a2 hTb) e.platform hpl
  have g0 : ex' = 0 → s.vm.assignable cell.cls C0 = true := fun he => by
    obtain ⟨y1, y2, z1, z2, z3⟩ := Cond.castable_spec (mm_wq_before (args := args) b0 hTb)
    rw [he] at k3
    cases k3.symm.trans z1
    cases f0.symm.trans z2
    exact z3
  have g1 : ex' = 1 → s.vm.assignable cell.cls C1 = true := fun he => by
    obtain ⟨y1, y2, z1, z2, z3⟩ := Cond.castable_spec (mm_wq_before (args := args) b1 hTb)
    rw [he] at k3
    cases k3.symm.trans z1
    cases f1.symm.trans z2
    exact z3
  have g2 : ex' = 2 → s.vm.assignable cell.cls C2 = true := fun he => by
    obtain ⟨y1, y2, z1, z2, z3⟩ := Cond.castable_spec (mm_wq_before (args := args) b2 hTb)
    rw [he] at k3
    cases k3.symm.trans z1
    cases f2.symm.trans z2
    exact z3
  have hWk : ∀ (hp : Nat) (n : Int), (decode (mm_cd mi) hp = .ok (.astore_n sl, 1) ∧ decode (mm_cd mi) (hp + 1) = .ok (.iconst n, 1) ∧ decode (mm_cd mi) (hp + 1 + 1) = .ok (.ireturn, 1)) → W p l e R s m args below meth c T'.heap locs' cells' slots' (mm_End R s below D cT zt A rho0 Post) (F0 m hp ls [.ref x]) := by
    intro hp n hdd
    refine lv_astore_n hx hb hdd.1 rfl hJ.2.2.2.2.2.2.1.has hsl rfl fun ls' hl' => ?_
    have hI' : mm_I R s D cT zt A (mm_ml mi) rho' (List.replicate (mm_ml mi) none) h' T'.heap locs' cells' slots' ls' := ⟨hJ.1, hJ.2.1, fun v hv => by simp at hv, hJ.2.2.2.1, hJ.2.2.2.2.1, hJ.2.2.2.2.2.1, ⟨by simp, hl'.1, hl'.2.1, fun i v hi => by simp [List.getElem?_replicate] at hi⟩, hJ.2.2.2.2.2.2.2.1, hJ.2.2.2.2.2.2.2.2⟩
    exact mr_iconst hx hb hdd.2.1 rfl (mr_iret hx hb (by rw [hr, hrt]) rfl hlk hdd.2.2 (hpost _)) rho' T'.heap locs' cells' slots' ls' hp' (fun v hv => by cases hv) hI'
  have cov : ∀ y : ExceptionTableEntry, y.startPc = s0 → y.endPc = e0 → covers y pc = true := fun y y1 y2 => by simp [covers, y1, y2, hc1, hc2]
  have hcl : ∃ kc, s.vm.classes[cell.cls]? = some kc := by
    have hkt : ∀ {C : ClassId} {ct : Nat}, s.vm.ClassLinks e.platform m.cls ct C → ∃ kt, s.vm.classes[C]? = some kt := fun hcl => by
      obtain ⟨dk, _, _, kt, hd, _, _, _, _, hkt, _, hopen⟩ := hcl.here
      exact ⟨kt, hkt⟩
    obtain he | he | he : ex' = 0 ∨ ex' = 1 ∨ ex' = 2 := by omega
    · exact Vm.classAt_of_assignable (g0 he) (hkt l0)
    · exact Vm.classAt_of_assignable (g1 he) (hkt l1)
    · exact Vm.classAt_of_assignable (g2 he) (hkt l2)
  have fin : ∀ (pre : List ExceptionTableEntry) (y : ExceptionTableEntry) (rst : List ExceptionTableEntry) (hp : Nat) (n : Int), c.exceptionTable.toList = pre ++ y :: rst → (∀ z ∈ pre, RowPassed e.platform s m.cls pc cell.cls z) → covers y pc = true → RowCatches e.platform s m.cls cell.cls y → y.handlerPc = hp → (decode (mm_cd mi) hp = .ok (.astore_n sl, 1) ∧ decode (mm_cd mi) (hp + 1) = .ok (.iconst n, 1) ∧ decode (mm_cd mi) (hp + 1 + 1) = .ok (.ireturn, 1)) → ∃ t, Steps p.tables e below ((T'.setTop (F0 m pc ls stk)).pushFrame (.throwing x)) t ∧ mm_End R s below D cT zt A rho0 Post t := by
    intro pre y rst hp n hs hpre hcv hca hyp hdd
    obtain ⟨vm', XV, stV⟩ := X'.caughtThrough x (g := F0 m pc ls stk) rfl k1 k2 hcl pre y rst hs hpre hcv hca
    rw [X'.pushThrowing_eq]
    obtain ⟨t, y1, y2⟩ := hWk hp n hdd (T'.setVm vm') rfl XV
    refine ⟨t, stV t ?_, y2⟩
    rw [hyp]
    exact y1
  by_cases A0 : s.vm.assignable cell.cls C0 = true
  · exact fin [] x0 _ h0 n0 hxe (fun z hz => by cases hz) (cov x0 p1 p2) (Or.inr ⟨by rw [p4]; exact hct.1, C0, by rw [p4]; exact l0, A0⟩) p3 dA
  · have P0 : RowPassed e.platform s m.cls pc cell.cls x0 := Or.inr ⟨by rw [p4]; exact hct.1, C0, by rw [p4]; exact l0, by simpa using A0⟩
    by_cases A1 : s.vm.assignable cell.cls C1 = true
    · exact fin [x0] x1 _ h1 n1 hxe (fun z hz => by rw [List.mem_singleton.mp hz]; exact P0) (cov x1 q1 q2) (Or.inr ⟨by rw [q4]; exact hct.2.1, C1, by rw [q4]; exact l1, A1⟩) q3 dB
    · have P1 : RowPassed e.platform s m.cls pc cell.cls x1 := Or.inr ⟨by rw [q4]; exact hct.2.1, C1, by rw [q4]; exact l1, by simpa using A1⟩
      have A2 : s.vm.assignable cell.cls C2 = true := g2 (by
        obtain he | he | he : ex' = 0 ∨ ex' = 1 ∨ ex' = 2 := by omega
        · exact absurd (g0 he) A0
        · exact absurd (g1 he) A1
        · exact he)
      exact fin [x0, x1] x2 _ h2 n2 hxe (fun z hz => by
        rcases List.mem_cons.mp hz with e1 | e1
        · rw [e1]; exact P0
        · rw [List.mem_singleton.mp e1]; exact P1) (cov x2 r1 r2) (Or.inr ⟨by rw [r4]; exact hct.2.2, C2, by rw [r4]; exact l2, A2⟩) r3 dC
