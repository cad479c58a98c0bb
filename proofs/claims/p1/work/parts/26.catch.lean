/-! A CALL WHOSE EXCEPTION IS CAUGHT by the first row of the caller's table: handler, a number, return -/
theorem mm_catchP {Z : Nat → List Int32} {d mi k pc idx i0 i1 i2 i4 i5 i6 a hp ct ex : Nat} {sl : Fin 4} {n : Int} {x0 : Int32} {as rest fs : List mm_V} {L : mm_L} {h : mm_H} {q : vw_C} {G0 Post : mm_A → mm_H → Prop} {s0 e0 : Nat} {tl : List (Nat × Nat × Nat × Nat)}
    (hd : decode (mm_cd mi) pc = .ok (.invokevirtual idx, 3)) (w0 : mm_wq i0 (.methodLink (mm_own mi) idx (mm_nm k)) = true) (w1 : mm_wq i1 (.instanceMethod (mm_nm k)) = true) (w2 : mm_wq i2 (.selects q.1 (mm_nm k) (mm_nm k)) = true) (w4 : mm_wq i4 (mm_codeW k) = true) (hyo : mm_yok (mm_nm k) = true) (hmax : mm_ml k ≤ 20) (hhk : mm_hd k = []) (hn : mm_pars k = some as.length) (hq : vwCl[mm_ci k]? = some q) (ha : h.1[a]? = some (.inl (mm_ci k, fs))) (hlen : rest.length ≤ 12)
    (hG : mm_G Z d k (vR a :: as) h G0) (kk : ∀ v h', G0 (.inl v) h' → mm_P Z (d + 1) mi (pc + 3) L (v.toList ++ rest) h' Post)
    (hh : mm_hd mi = (s0, e0, hp, ct) :: tl) (hc1 : s0 ≤ pc) (hc2 : pc < e0) (hct : ct ≠ 0) (w5 : mm_wq i5 (.classLink (mm_own mi) ct (mm_ex ex)) = true) (w6 : mm_wq i6 (.castable (mm_ex ex) (mm_ex ex)) = true)
    (hx0 : ∀ e' h', G0 (.inr e') h' → e' = ex ∧ Post (aX (vI x0)) h')
    (dA : decode (mm_cd mi) hp = .ok (.astore_n sl, 1)) (dI : decode (mm_cd mi) (hp + 1) = .ok (.iconst n, 1)) (hv : Int32.ofInt n = x0) (dR : decode (mm_cd mi) (hp + 1 + 1) = .ok (.ireturn, 1)) (hrt : mm_rt mi = some .int) (hsl : sl.val < mm_ml mi) :
    mm_P Z (d + 1) mi pc L ((vR a :: as).reverse ++ rest) h Post := by
  intro p l e R s m args below meth c D cT zt A rho0 hF
  obtain ⟨hx, htr, hb, hr, hml, hown, hnm, hlk, hex, hd1, hd2, hA, hTb⟩ := id hF
  obtain ⟨c1, c2⟩ := mm_wq_of w4
  refine mr_callVC hF (mm_wq_before w0 hTb) (mm_wq_before w1 hTb) (mm_wq_before w2 hTb) c1 c2 hyo hmax hhk hq ha hn hlen hd hG (fun v h' hv => kk v h' hv p l e R s m args below meth c D cT zt A rho0 hF) (fun ex' h' T' rho' locs' cells' slots' x ls stk hg hthr hp' X' hJ => ?_)
  obtain ⟨rfl, hpost⟩ := hx0 _ _ hg
  obtain ⟨cell, t1, t2, t3⟩ := hthr
  rw [hh] at hex
  obtain ⟨xe, xr, hxe, hxs, -⟩ := List.map_eq_cons_iff.mp hex
  simp only [mm_et, Prod.mk.injEq] at hxs
  obtain ⟨e1, e2, e3, e4⟩ := hxs
  obtain ⟨cc1, cc2, k1, k2, k3⟩ := Cond.castable_spec (mm_wq_before (args := args) w6 hTb)
  rw [X'.warmed.alike.findClass] at t3
  have hcls : cell.cls = cc1 := Option.some.inj (t3.symm.trans k1)
  obtain ⟨vm', XV, stV⟩ := X'.caughtLink x (g := F0 m pc ls stk) rfl hown [] xe xr hxe (fun y hy => by cases hy) (by simp [covers, e1, e2, hc1, hc2]) (by rw [e4]; exact hct) (by rw [e4]; exact mm_wq_before w5 hTb) k2 t1 t2 (by rw [hcls]; exact k3)
  rw [X'.pushThrowing_eq]
  have hWk : W p l e R s m args below meth c T'.heap locs' cells' slots' (mm_End R s below D cT zt A rho0 Post) (F0 m hp ls [.ref x]) := by
    refine lv_astore_n hx hb dA rfl hJ.2.2.2.2.2.2.1.has hsl rfl fun ls' hl' => ?_
    have hI' : mm_I R s D cT zt A (mm_ml mi) rho' (List.replicate (mm_ml mi) none) h' T'.heap locs' cells' slots' ls' := ⟨hJ.1, hJ.2.1, fun v hv => by simp at hv, hJ.2.2.2.1, hJ.2.2.2.2.1, hJ.2.2.2.2.2.1, ⟨by simp, hl'.1, hl'.2.1, fun i v hi => by simp [List.getElem?_replicate] at hi⟩, hJ.2.2.2.2.2.2.2.1, hJ.2.2.2.2.2.2.2.2⟩
    exact mr_iconst hx hb dI hv (mr_iret hx hb (by rw [hr, hrt]) rfl hlk dR hpost) rho' T'.heap locs' cells' slots' ls' hp' (fun v hv => by cases hv) hI'
  obtain ⟨t, a1, a2⟩ := hWk (T'.setVm vm') rfl XV
  refine ⟨t, stV t ?_, a2⟩
  rw [e3]
  exact a1
