/-! A ROW IS COPIED: the native step -/
section E5
variable {p : Program} {l : Launch} {e : Env} {R : Room} {s : State} {m : MethodId} {args : Array Value} {below : List Frame} {meth : Method} {c : Code} {Q : State → Prop} {D : va_G} {cT : Nat → ClassId} {zt : Nat → Nat} {A : Nat → Prop} {nL : Nat} {rho0 : List Nat} {cc : ByteArray} {pc : Nat} {L : mm_L} {r : List mm_V} {h : mm_H}
def mm_cpy (xs ys : List Int32) (n : Nat) : List Int32 := (List.range ys.length).map fun j => if j < n then xs.getD j 0 else ys.getD j 0
theorem mm_cpy_len {xs ys : List Int32} {n : Nat} : (mm_cpy xs ys n).length = ys.length := by simp [mm_cpy]
theorem mm_cpy_eq {xs ys : List Int32} {n : Nat} (hn : n ≤ ys.length) : va_cpy (fun j => xs.getD j 0) (fun j => ys.getD j 0) 0 0 n = fun j => (mm_cpy xs ys n).getD j 0 := by
  funext j
  unfold va_cpy mm_cpy
  by_cases hj : j < ys.length
  · rw [List.getD_eq_getElem?_getD, List.getElem?_map, List.getElem?_range hj]
    by_cases h2 : j < n
    · rw [if_pos ⟨Nat.zero_le _, by omega⟩]
      simp [h2]
    · rw [if_neg (by omega)]
      simp [h2]
  · rw [if_neg (by omega)]
    show ys.getD j 0 = _
    rw [List.getD_eq_getElem?_getD, List.getD_eq_getElem?_getD, List.getElem?_eq_none (by omega), List.getElem?_eq_none (by simp; omega)]
theorem mr_copy (hx : p.tables.exec = Jvm.exec) (hb : c.code = cc) (hml : c.maxLocals = nL) {own : String} {idx : Nat} (hown : s.vm.findClass own = some m.cls) (hl : (Jvm.Cond.methodLink own idx arraycopyName).before args s = true) (hnat : (Jvm.Cond.native arraycopyName).before args s = true) (hstat : (Jvm.Cond.static arraycopyName).before args s = true) (hini : (Jvm.Cond.initialized "java/lang/System").before args s = true) (hK : va_K D vwCl (mm_tys cT) s) (hfr : 1 ≤ R.frames) (hlo : 200 ≤ R.locals) (hlen : r.length ≤ 12) {a0 a1 : Nat} {xs ys : List Int32} {n : Int32} (h0 : mm_int h a0 0 = some xs) (h1 : mm_int h a1 0 = some ys) (hn : ¬ n < 0) (hn0 : n.toNatClampNeg ≤ xs.length) (hn1 : n.toNatClampNeg ≤ ys.length) (hd : decode cc pc = .ok (.invokestatic idx, 3)) (k : mm_W p l e R s m args below meth c Q D cT zt A nL rho0 (pc + 3) L r (h.1.set a1 (.inr (.inl (0, mm_cpy xs ys n.toNatClampNeg))), h.2)) : mm_W p l e R s m args below meth c Q D cT zt A nL rho0 pc L (vI n :: vI 0 :: vR a1 :: vI 0 :: vR a0 :: r) h := by
  intro rho H locs cells slots ls hp hst hI
  have hcat := mm_catSum (r.map (mm_v rho zt))
  rw [List.length_map] at hcat
  have hw : nativeFrameWords "java/lang/System" "arraycopy" 5 ≤ 100 := by decide
  have hz : (0 : Int32).toNatClampNeg = 0 := rfl
  refine va_copyi hx hb (by rw [hml]; exact hI.2.2.2.2.2.2.1.2.1.symm) hown hl hnat hstat hini hK hI.2.2.2.1 hI.2.2.2.2.1 hI.2.2.2.2.2.1 a0 a1 0 0 (mm_at hI (mm_int_of h0)) (mm_at hI (mm_int_of h1)) rfl rfl rfl (by decide) (by decide) hn (by rw [hz, Nat.zero_add]; exact hn0) (by rw [hz, Nat.zero_add]; exact hn1) (fun _ _ => rfl) hfr (by omega) hd fun H1 locs1 hP hD hS => ?_
  rw [hz, mm_cpy_eq hn1] at hP hD
  have hE : (Sum.inl (cT 0, ys.length, .inl (fun j => (mm_cpy xs ys n.toNatClampNeg).getD j 0)) : va_E) = mm_e rho zt cT (.inr (.inl (0, mm_cpy xs ys n.toNatClampNeg))) := by
    simp only [mm_e, mm_cpy_len]
  exact k rho H1 locs1 cells slots ls hp (by rw [List.length_set]; exact mm_okt (mm_okt (mm_okt (mm_okt (mm_okt hst))))) (hI.wrote (mm_int_of h1) trivial (by rw [← hE]; exact hP) (by rw [← hE]; exact hD) hS)
theorem m80_w : mm_wq 809 (.methodLink (mm_own 80) 150 arraycopyName) = true ∧ mm_wq 810 (.static arraycopyName) = true ∧ mm_wq 811 (.native arraycopyName) = true ∧ mm_wq 97 (.initialized "java/lang/System") = true := by decide +kernel
theorem m80_d : decode (mm_cd 80) 28 = .ok (.invokestatic 150, 3) := by decide +kernel
theorem m80_c {Z : Nat → List Int32} {d : Nat} {Post : mm_A → mm_H → Prop} {a0 a1 : Nat} {xs ys : List Int32} {n : Int32} (hd6 : 6 ≤ d) (hlen : r.length ≤ 12) (h0 : mm_int h a0 0 = some xs) (h1 : mm_int h a1 0 = some ys) (hn : ¬ n < 0) (hn0 : n.toNatClampNeg ≤ xs.length) (hn1 : n.toNatClampNeg ≤ ys.length) (k : mm_P Z d 80 31 L r (h.1.set a1 (.inr (.inl (0, mm_cpy xs ys n.toNatClampNeg))), h.2) Post) : mm_P Z d 80 28 L (vI n :: vI 0 :: vR a1 :: vI 0 :: vR a0 :: r) h Post := by
  intro p l e R s m args below meth c D cT zt A rho0 hF
  have hF' := hF
  obtain ⟨hx, htr, hb, hr, hml, hown, hnm, hlk, hex, hd1, hd2, hA, hTb⟩ := hF
  obtain ⟨w0, w1, w2, w3⟩ := m80_w
  exact mr_copy hx hb hml hown (mm_wq_before w0 hTb) (mm_wq_before w2 hTb) (mm_wq_before w1 hTb) (mm_wq_before w3 hTb) hTb.2.1 (by omega) (by omega) hlen h0 h1 hn hn0 hn1 m80_d (k p l e R s m args below meth c D cT zt A rho0 hF')
end E5
