theorem mm_fld_of {h : mm_H} {a ci k : Nat} {v : mm_V} (hv : mm_fld h a ci k = some v) : ∃ fs, h.1[a]? = some (.inl (ci, fs)) ∧ fs[k]? = some v := by
  unfold mm_fld at hv
  split at hv
  · rename_i cq fs hq
    split at hv
    · rename_i hc
      subst hc
      exact ⟨fs, hq, hv⟩
    · cases hv
  · cases hv
theorem mm_put_of {h h' : mm_H} {a ci k : Nat} {v : mm_V} (hv : mm_put h a ci k v = some h') : ∃ fs, h.1[a]? = some (.inl (ci, fs)) ∧ k < fs.length ∧ h' = (h.1.set a (.inl (ci, fs.set k v)), h.2) := by
  unfold mm_put at hv
  split at hv
  · rename_i cq fs hq
    split at hv
    · rename_i hc
      obtain ⟨rfl, hk⟩ := hc
      cases hv
      exact ⟨fs, hq, hk, rfl⟩
    · cases hv
  · cases hv
theorem mm_int_of {h : mm_H} {a kd : Nat} {xs : List Int32} (hv : mm_int h a kd = some xs) : h.1[a]? = some (.inr (.inl (kd, xs))) := by
  unfold mm_int at hv
  split at hv
  · rename_i q hq
    split at hv
    · rename_i hk
      subst hk
      cases hv
      exact hq
    · cases hv
  · cases hv
theorem mm_lng_of {h : mm_H} {a : Nat} {xs : List Int64} (hv : mm_lng h a = some xs) : h.1[a]? = some (.inr (.inr (.inl xs))) := by
  unfold mm_lng at hv
  split at hv
  · rename_i hq; cases hv; exact hq
  · cases hv
theorem mm_refs_of {h : mm_H} {a : Nat} {q : Nat × List (Option Nat)} (hv : mm_refs h a = some q) : h.1[a]? = some (.inr (.inr (.inr q))) ∧ q.1 < 2 := by
  unfold mm_refs at hv
  split at hv
  · rename_i q' hq
    split at hv
    · rename_i hk
      cases hv
      exact ⟨hq, hk⟩
    · cases hv
  · cases hv
theorem mm_tys_q {cT : Nat → ClassId} {j : Nat} (hj : j < 2) : ∃ C T N, (mm_tys cT)[j + 4]? = some (cT (j + 4), .object C) ∧ vwCl[mm_el j]? = some (C, T, N) := by
  match j, hj with
  | 0, _ => exact ⟨_, _, _, rfl, rfl⟩
  | 1, _ => exact ⟨_, _, _, rfl, rfl⟩
theorem mm_ix_of {i : Int32} {n k : Nat} (h : mm_ix i n = some k) : vp_in i n ∧ i.toNatClampNeg = k ∧ k < n := by
  unfold mm_ix at h
  split at h
  · cases h
  · rename_i h0
    split at h
    · rename_i h1
      cases h
      exact ⟨fun q => q.elim h0 (fun z => absurd h1 (Nat.not_lt.mpr z)), rfl, h1⟩
    · cases h
theorem mm_okO_set {cs : List mm_O} {a : Nat} {x : mm_O} (hok : ∀ o ∈ cs, mm_okO cs.length o) (hx : mm_okO cs.length x) : ∀ o ∈ cs.set a x, mm_okO (cs.set a x).length o := by
  intro o ho
  rw [List.length_set]
  rcases List.mem_or_eq_of_mem_set ho with h1 | h1
  · exact hok o h1
  · rw [h1]; exact hx
theorem mm_rep_getD {α : Type} (n j : Nat) (d : α) : (List.replicate n d).getD j d = d := by
  simp only [List.getD_eq_getElem?_getD, List.getElem?_replicate]
  split <;> rfl
theorem mm_mem_set {α : Type} {l : List α} {k : Nat} {v w : α} (h : w ∈ l.set k v) : w ∈ l ∨ w = v := List.mem_or_eq_of_mem_set h
section MR
variable {p : Program} {l : Launch} {e : Env} {R : Room} {s : State} {m : MethodId} {args : Array Value} {below : List Frame} {meth : Method} {c : Code} {Q : State → Prop} {D : va_G} {cT : Nat → ClassId} {zt : Nat → Nat} {A : Nat → Prop} {nL : Nat} {rho0 : List Nat} {cc : ByteArray} {pc : Nat} {L : mm_L} {r : List mm_V} {h : mm_H} {Ts : List Jvm.Cond}
theorem mm_at {rho : List Nat} {H : Heap} {locs : List Loc} {cells slots : Nat} {ls : Array Slot} (hI : mm_I R s D cT zt A nL rho L h H locs cells slots ls) {a : Nat} {o : mm_O} (ho : h.1[a]? = some o) : (mm_w rho zt cT h.1)[a]? = some (rho.getD a 0, mm_e rho zt cT o) := mm_w_at hI.1 ho
/-- behind a write into the cell a -/
theorem mm_I.wrote {rho : List Nat} {H H1 : Heap} {locs locs1 : List Loc} {cells slots : Nat} {ls : Array Slot} (hI : mm_I R s D cT zt A nL rho L h H locs cells slots ls) {a : Nat} {o0 x : mm_O} (ho : h.1[a]? = some o0) (hx : mm_okO h.1.length x) (hP : va_P D vwCl ((mm_w rho zt cT h.1).set a (rho.getD a 0, mm_e rho zt cT x)) H1) (hD : va_D A ((mm_w rho zt cT h.1).set a (rho.getD a 0, mm_e rho zt cT x))) (hS : va_S A s.heap H1 locs1) : mm_I R s D cT zt A nL rho L (h.1.set a x, h.2) H1 locs1 cells slots ls := by
  have ha : a < h.1.length := (List.getElem?_eq_some_iff.mp ho).1
  rw [← mm_w_set hI.1 ha] at hP hD
  refine ⟨by rw [List.length_set]; exact hI.1, mm_okO_set hI.2.1 hx, fun v hv => by rw [List.length_set]; exact hI.2.2.1 v hv, hP, hD, hS, hI.2.2.2.2.2.2⟩
/-- behind a new cell -/
theorem mm_I.made {rho : List Nat} {H H1 : Heap} {locs : List Loc} {cells slots n : Nat} {ls : Array Slot} (hI : mm_I R s D cT zt A nL rho L h H locs cells slots ls) {x : mm_O} {q : Nat} {E : va_E} {h' : mm_H} (hn : mm_new h x n = some h') (hx : mm_okO 0 x) (hE : E = mm_e rho zt cT x) (hP : va_P D vwCl (mm_w rho zt cT h.1 ++ [(q, E)]) H1) (hD : va_D A (mm_w rho zt cT h.1 ++ [(q, E)])) (hS : va_S A s.heap H1 locs) : mm_I R s D cT zt A nL (rho ++ [q]) L h' H1 locs (cells + 1) (slots + n) ls := by
  unfold mm_new at hn
  split at hn
  · rename_i hb
    cases hn
    have hx0 : mm_okO rho.length x := mm_okO_mono (Nat.zero_le _) hx
    rw [hE, ← mm_e_app (t := [q]) hx0, ← mm_w_app hI.1 hI.2.1] at hP hD
    have hlen : (h.1 ++ [x]).length = h.1.length + 1 := by simp
    refine ⟨by simp [hI.1], fun o ho => ?_, fun v hv => mm_ok_mono (by simp) (hI.2.2.1 v hv), hP, hD, hS, hI.2.2.2.2.2.2.1.grow (fun v hv => by rw [hI.1]; exact hI.2.2.1 v hv), ?_, ?_⟩
    · rcases List.mem_append.mp ho with h1 | h1
      · exact mm_okO_mono (by simp) (hI.2.1 o h1)
      · rw [List.mem_singleton.mp h1]; exact mm_okO_mono (Nat.zero_le _) hx
    · have := hI.2.2.2.2.2.2.2.1
      show cells + 1 + (h.2.1 - 1) ≤ R.cells
      omega
    · have := hI.2.2.2.2.2.2.2.2
      show slots + n + (h.2.2 - n) ≤ R.slots
      omega
  · cases hn
theorem mm_new_of {x : mm_O} {n : Nat} {h' : mm_H} (hn : mm_new h x n = some h') : 1 ≤ h.2.1 ∧ n ≤ h.2.2 ∧ h'.1.length = h.1.length + 1 := by
  unfold mm_new at hn
  split at hn
  · rename_i hb
    cases hn
    exact ⟨hb.1, hb.2, by simp⟩
  · cases hn
theorem mr_get (hx : p.tables.exec = Jvm.exec) (hb : c.code = cc) {own C : String} {T : u_T} {N ci index k : Nat} (hts : ∀ w ∈ Ts, w.before args s = true) (hin : ∀ w ∈ u_ws C T N, w ∈ Ts) (hown : s.vm.findClass own = some m.cls) (hK : va_K D vwCl (mm_tys cT) s) (hc : vwCl[ci]? = some (C, T, N)) (hk : k < N) (hl : (Jvm.Cond.fieldLink own index (T k).1 (T k).2.1 (T k).2.2.1).before args s = true) {a : Nat} {v : mm_V} (hv : mm_fld h a ci k = some v) (hd : decode cc pc = .ok (.getfield index, 3)) (kk : mm_W p l e R s m args below meth c Q D cT zt A nL rho0 (pc + 3) L (v :: r) h) : mm_W p l e R s m args below meth c Q D cT zt A nL rho0 (pc) L (vR a :: r) h := by
  intro rho H locs cells slots ls hp hst hI
  obtain ⟨fs, h1, h2⟩ := mm_fld_of hv
  have hok : mm_ok h.1.length v := hI.2.1 _ (List.mem_of_getElem? h1) v (List.mem_of_getElem? h2)
  exact va_get hx hb hts hin hown hK hI.2.2.2.1 a (mm_at hI h1) hc k hk hl (fun _ z => z) (v := mm_v rho zt v) (by rw [List.getElem?_map, h2]; rfl) hd (kk rho H locs cells slots ls hp (mm_okc hok (mm_okt hst)) hI)
theorem mr_getN (hx : p.tables.exec = Jvm.exec) (hb : c.code = cc) {own C : String} {host : String} {T : u_T} {N ci index k : Nat} (hts : ∀ w ∈ Ts, w.before args s = true) (hin : ∀ w ∈ u_ws C T N, w ∈ Ts) (hown : s.vm.findClass own = some m.cls) (hK : va_K D vwCl (mm_tys cT) s) (hc : vwCl[ci]? = some (C, T, N)) (hk : k < N) (hl : (Jvm.Cond.fieldLinkNest own index (T k).1 (T k).2.1 (T k).2.2.1 host).before args s = true) {a : Nat} {v : mm_V} (hv : mm_fld h a ci k = some v) (hd : decode cc pc = .ok (.getfield index, 3)) (kk : mm_W p l e R s m args below meth c Q D cT zt A nL rho0 (pc + 3) L (v :: r) h) : mm_W p l e R s m args below meth c Q D cT zt A nL rho0 (pc) L (vR a :: r) h := by
  intro rho H locs cells slots ls hp hst hI
  obtain ⟨fs, h1, h2⟩ := mm_fld_of hv
  have hok : mm_ok h.1.length v := hI.2.1 _ (List.mem_of_getElem? h1) v (List.mem_of_getElem? h2)
  exact va_getN hx hb hts hin hown hK hI.2.2.2.1 a (mm_at hI h1) hc k hk hl (fun _ z => z) (v := mm_v rho zt v) (by rw [List.getElem?_map, h2]; rfl) hd (kk rho H locs cells slots ls hp (mm_okc hok (mm_okt hst)) hI)
theorem mr_put (hx : p.tables.exec = Jvm.exec) (hb : c.code = cc) {own C : String} {T : u_T} {N ci index k : Nat} (hts : ∀ w ∈ Ts, w.before args s = true) (hin : ∀ w ∈ u_ws C T N, w ∈ Ts) (ty0 : Nat → FieldType) (hty : ∀ k, k < N → parseFieldDescriptor (T k).2.2.1 = some (ty0 k)) (hnm : ∀ a, a < N → ∀ b, b < N → a ≠ b → (T a).2.1 ≠ (T b).2.1) (hown : s.vm.findClass own = some m.cls) (hK : va_K D vwCl (mm_tys cT) s) (hc : vwCl[ci]? = some (C, T, N)) (hk : k < N) (hl : (Jvm.Cond.fieldLink own index (T k).1 (T k).2.1 (T k).2.2.1).before args s = true) (hfin : (T k).2.2.2 = false) {a : Nat} {v : mm_V} {h' : mm_H} (hn : ∀ rho : List Nat, narrow (ty0 k) (mm_v rho zt v) = mm_v rho zt v ∧ fits (ty0 k) (mm_v rho zt v) = true) (hv : mm_put h a ci k v = some h') (hd : decode cc pc = .ok (.putfield index, 3)) (kk : mm_W p l e R s m args below meth c Q D cT zt A nL rho0 (pc + 3) L (r) h') : mm_W p l e R s m args below meth c Q D cT zt A nL rho0 (pc) L (v :: vR a :: r) h := by
  intro rho H locs cells slots ls hp hst hI
  obtain ⟨fs, h1, h2, rfl⟩ := mm_put_of hv
  refine va_put hx hb hts hin ty0 hty hnm hown hK hI.2.2.2.1 hI.2.2.2.2.1 hI.2.2.2.2.2.1 a (mm_at hI h1) hc k hk hl (fun _ z => z) hfin (hty k hk) (hn rho).1 (hn rho).2 (by rw [List.length_map]; exact h2) hd fun H1 locs1 hP hD hS => ?_
  rw [← List.map_set] at hP hD
  have hx2 : mm_okO h.1.length (.inl (ci, fs.set k v)) := fun w hw => by
    rcases mm_mem_set hw with z | z
    · exact hI.2.1 _ (List.mem_of_getElem? h1) w z
    · rw [z]; exact mm_okh hst
  exact kk rho H1 locs1 cells slots ls hp (by rw [List.length_set]; exact mm_okt (mm_okt hst)) (hI.wrote h1 hx2 hP hD hS)
theorem mr_putF (hx : p.tables.exec = Jvm.exec) (hb : c.code = cc) {own C : String} {T : u_T} {N ci index k : Nat} (hts : ∀ w ∈ Ts, w.before args s = true) (hin : ∀ w ∈ u_ws C T N, w ∈ Ts) (ty0 : Nat → FieldType) (hty : ∀ k, k < N → parseFieldDescriptor (T k).2.2.1 = some (ty0 k)) (hnm : ∀ a, a < N → ∀ b, b < N → a ≠ b → (T a).2.1 ≠ (T b).2.1) (hown : s.vm.findClass own = some m.cls) (hK : va_K D vwCl (mm_tys cT) s) (hc : vwCl[ci]? = some (C, T, N)) (hk : k < N) (hl : (Jvm.Cond.fieldLink own index (T k).1 (T k).2.1 (T k).2.2.1).before args s = true) (hfin : (T k).2.2.2 = true) (hin2 : meth.name = "<init>") (hdecl : (T k).1 = own) {a : Nat} {v : mm_V} {h' : mm_H} (hn : ∀ rho : List Nat, narrow (ty0 k) (mm_v rho zt v) = mm_v rho zt v ∧ fits (ty0 k) (mm_v rho zt v) = true) (hv : mm_put h a ci k v = some h') (hd : decode cc pc = .ok (.putfield index, 3)) (kk : mm_W p l e R s m args below meth c Q D cT zt A nL rho0 (pc + 3) L (r) h') : mm_W p l e R s m args below meth c Q D cT zt A nL rho0 (pc) L (v :: vR a :: r) h := by
  intro rho H locs cells slots ls hp hst hI
  obtain ⟨fs, h1, h2, rfl⟩ := mm_put_of hv
  refine va_putF hx hb hts hin ty0 hty hnm hown hK hI.2.2.2.1 hI.2.2.2.2.1 hI.2.2.2.2.2.1 a (mm_at hI h1) hc k hk hl (fun _ z => z) hfin hin2 hdecl (hty k hk) (hn rho).1 (hn rho).2 (by rw [List.length_map]; exact h2) hd fun H1 locs1 hP hD hS => ?_
  rw [← List.map_set] at hP hD
  have hx2 : mm_okO h.1.length (.inl (ci, fs.set k v)) := fun w hw => by
    rcases mm_mem_set hw with z | z
    · exact hI.2.1 _ (List.mem_of_getElem? h1) w z
    · rw [z]; exact mm_okh hst
  exact kk rho H1 locs1 cells slots ls hp (by rw [List.length_set]; exact mm_okt (mm_okt hst)) (hI.wrote h1 hx2 hP hD hS)
theorem mr_putN (hx : p.tables.exec = Jvm.exec) (hb : c.code = cc) {own C : String} {host : String} {T : u_T} {N ci index k : Nat} (hts : ∀ w ∈ Ts, w.before args s = true) (hin : ∀ w ∈ u_ws C T N, w ∈ Ts) (ty0 : Nat → FieldType) (hty : ∀ k, k < N → parseFieldDescriptor (T k).2.2.1 = some (ty0 k)) (hnm : ∀ a, a < N → ∀ b, b < N → a ≠ b → (T a).2.1 ≠ (T b).2.1) (hown : s.vm.findClass own = some m.cls) (hK : va_K D vwCl (mm_tys cT) s) (hc : vwCl[ci]? = some (C, T, N)) (hk : k < N) (hl : (Jvm.Cond.fieldLinkNest own index (T k).1 (T k).2.1 (T k).2.2.1 host).before args s = true) (hfin : (T k).2.2.2 = false) {a : Nat} {v : mm_V} {h' : mm_H} (hn : ∀ rho : List Nat, narrow (ty0 k) (mm_v rho zt v) = mm_v rho zt v ∧ fits (ty0 k) (mm_v rho zt v) = true) (hv : mm_put h a ci k v = some h') (hd : decode cc pc = .ok (.putfield index, 3)) (kk : mm_W p l e R s m args below meth c Q D cT zt A nL rho0 (pc + 3) L (r) h') : mm_W p l e R s m args below meth c Q D cT zt A nL rho0 (pc) L (v :: vR a :: r) h := by
  intro rho H locs cells slots ls hp hst hI
  obtain ⟨fs, h1, h2, rfl⟩ := mm_put_of hv
  refine va_putN hx hb hts hin ty0 hty hnm hown hK hI.2.2.2.1 hI.2.2.2.2.1 hI.2.2.2.2.2.1 a (mm_at hI h1) hc k hk hl (fun _ z => z) hfin (hty k hk) (hn rho).1 (hn rho).2 (by rw [List.length_map]; exact h2) hd fun H1 locs1 hP hD hS => ?_
  rw [← List.map_set] at hP hD
  have hx2 : mm_okO h.1.length (.inl (ci, fs.set k v)) := fun w hw => by
    rcases mm_mem_set hw with z | z
    · exact hI.2.1 _ (List.mem_of_getElem? h1) w z
    · rw [z]; exact mm_okh hst
  exact kk rho H1 locs1 cells slots ls hp (by rw [List.length_set]; exact mm_okt (mm_okt hst)) (hI.wrote h1 hx2 hP hD hS)
theorem mr_new (hx : p.tables.exec = Jvm.exec) (hb : c.code = cc) {own C : String} {T : u_T} {N ci index : Nat} (hts : ∀ w ∈ Ts, w.before args s = true) (hin : ∀ w ∈ u_ws C T N, w ∈ Ts) (ty0 : Nat → FieldType) (hty : ∀ k, k < N → parseFieldDescriptor (T k).2.2.1 = some (ty0 k)) (hown : s.vm.findClass own = some m.cls) (hcl : (Jvm.Cond.classLink own index C).before args s = true) (hinst : (Jvm.Cond.instantiable C N).before args s = true) (hini : (Jvm.Cond.initialized C).before args s = true) (hK : va_K D vwCl (mm_tys cT) s) (hA : ∀ q, s.heap.size ≤ q → A q) (hc : vwCl[ci]? = some (C, T, N)) {fs : List mm_V} {h' : mm_H} (hfs : ∀ (rho : List Nat) (j : Nat), j < N → defaultValue (ty0 j) = vp_V (fs.map (mm_v rho zt)) j) (hf0 : ∀ v ∈ fs, mm_ok 0 v) (hn : mm_new h (.inl (ci, fs)) N = some h') (hd : decode cc pc = .ok (.new index, 3)) (kk : mm_W p l e R s m args below meth c Q D cT zt A nL rho0 (pc + 3) L (vR h.1.length :: r) h') : mm_W p l e R s m args below meth c Q D cT zt A nL rho0 (pc) L (r) h := by
  intro rho H locs cells slots ls hp hst hI
  obtain ⟨b1, b2, b3⟩ := mm_new_of hn
  have q1 := hI.2.2.2.2.2.2.2.1
  have q2 := hI.2.2.2.2.2.2.2.2
  refine va_new hx hb hts hin ty0 hty hown hcl hinst hini hK hI.2.2.2.1 hI.2.2.2.2.1 hI.2.2.2.2.2.1 hA hc (fs := fs.map (mm_v rho zt)) (hfs rho) (by omega) (by omega) hd fun q H1 hP hD hS => ?_
  have hI' := hI.made hn hf0 rfl hP hD hS
  have hz : (rho ++ [q]).getD h.1.length 0 = q := by rw [← hI.1]; simp [List.getD_eq_getElem?_getD]
  have := kk (rho ++ [q]) H1 locs (cells + 1) (slots + N) ls (hp.trans (List.prefix_append _ _)) (mm_okc (by show h.1.length < _; omega) (fun w hw => mm_ok_mono (by omega) (hst w hw))) hI'
  rw [List.map_cons, mm_map_app (fun w hw => by rw [hI.1]; exact hst w hw)] at this
  simp only [mm_v, hz] at this
  exact this
theorem mr_newa_int (hx : p.tables.exec = Jvm.exec) (hb : c.code = cc) (harr : (Jvm.Cond.arrayClass .int).before args s = true) (hK : va_K D vwCl (mm_tys cT) s) (hA : ∀ q, s.heap.size ≤ q → A q) {n : Int32} {N : Nat} {h' : mm_H} (h0 : ¬ n < 0) (hN : n.toNatClampNeg = N) (hbig : N * 4 ≤ 536870912) (hn : mm_new h (.inr (.inl (0, List.replicate N (0 : Int32)))) N = some h') (hd : decode cc pc = .ok (.newarray .int, 2)) (kk : mm_W p l e R s m args below meth c Q D cT zt A nL rho0 (pc + 2) L (vR h.1.length :: r) h') : mm_W p l e R s m args below meth c Q D cT zt A nL rho0 (pc) L (vI n :: r) h := by
  intro rho H locs cells slots ls hp hst hI
  obtain ⟨b1, b2, b3⟩ := mm_new_of hn
  have q1 := hI.2.2.2.2.2.2.2.1
  have q2 := hI.2.2.2.2.2.2.2.2
  refine va_newa hx hb (atype := .int) harr (ty := .int) rfl hK hI.2.2.2.1 hI.2.2.2.2.1 hI.2.2.2.2.2.1 hA (N' := N) (a0 := (N, .inl fun _ => (0 : Int32))) (fun _ => rfl) h0 hN hbig (by omega) (by omega) hd fun q cA H1 hK1 hP hD hS => ?_
  have hcA : cA = cT 0 := by
    have e1 : va_RA s cA .int := (hK1.2 6 (cA, .int) rfl).2
    have e2 : va_RA s (cT 0) .int := (hK.2 0 _ rfl).2
    exact Option.some.inj (e1.symm.trans e2)
  subst hcA
  have hI' := hI.made (x := .inr (.inl (0, List.replicate N (0 : Int32)))) hn trivial (by simp only [mm_e, List.length_replicate, mm_rep_getD]) hP hD hS
  have hz : (rho ++ [q]).getD h.1.length 0 = q := by rw [← hI.1]; simp [List.getD_eq_getElem?_getD]
  have := kk (rho ++ [q]) H1 locs (cells + 1) (slots + N) ls (hp.trans (List.prefix_append _ _)) (mm_okc (by show h.1.length < _; omega) (fun w hw => mm_ok_mono (by omega) (mm_okt hst w hw))) hI'
  rw [List.map_cons, mm_map_app (fun w hw => by rw [hI.1]; exact mm_okt hst w hw)] at this
  simp only [mm_v, hz] at this
  exact this
theorem mr_newa_byte (hx : p.tables.exec = Jvm.exec) (hb : c.code = cc) (harr : (Jvm.Cond.arrayClass .byte).before args s = true) (hK : va_K D vwCl (mm_tys cT) s) (hA : ∀ q, s.heap.size ≤ q → A q) {n : Int32} {N : Nat} {h' : mm_H} (h0 : ¬ n < 0) (hN : n.toNatClampNeg = N) (hbig : N * 1 ≤ 536870912) (hn : mm_new h (.inr (.inl (1, List.replicate N (0 : Int32)))) N = some h') (hd : decode cc pc = .ok (.newarray .byte, 2)) (kk : mm_W p l e R s m args below meth c Q D cT zt A nL rho0 (pc + 2) L (vR h.1.length :: r) h') : mm_W p l e R s m args below meth c Q D cT zt A nL rho0 (pc) L (vI n :: r) h := by
  intro rho H locs cells slots ls hp hst hI
  obtain ⟨b1, b2, b3⟩ := mm_new_of hn
  have q1 := hI.2.2.2.2.2.2.2.1
  have q2 := hI.2.2.2.2.2.2.2.2
  refine va_newa hx hb (atype := .byte) harr (ty := .byte) rfl hK hI.2.2.2.1 hI.2.2.2.2.1 hI.2.2.2.2.2.1 hA (N' := N) (a0 := (N, .inl fun _ => (0 : Int32))) (fun _ => rfl) h0 hN hbig (by omega) (by omega) hd fun q cA H1 hK1 hP hD hS => ?_
  have hcA : cA = cT 1 := by
    have e1 : va_RA s cA .byte := (hK1.2 6 (cA, .byte) rfl).2
    have e2 : va_RA s (cT 1) .byte := (hK.2 1 _ rfl).2
    exact Option.some.inj (e1.symm.trans e2)
  subst hcA
  have hI' := hI.made (x := .inr (.inl (1, List.replicate N (0 : Int32)))) hn trivial (by simp only [mm_e, List.length_replicate, mm_rep_getD]) hP hD hS
  have hz : (rho ++ [q]).getD h.1.length 0 = q := by rw [← hI.1]; simp [List.getD_eq_getElem?_getD]
  have := kk (rho ++ [q]) H1 locs (cells + 1) (slots + N) ls (hp.trans (List.prefix_append _ _)) (mm_okc (by show h.1.length < _; omega) (fun w hw => mm_ok_mono (by omega) (mm_okt hst w hw))) hI'
  rw [List.map_cons, mm_map_app (fun w hw => by rw [hI.1]; exact mm_okt hst w hw)] at this
  simp only [mm_v, hz] at this
  exact this
theorem mr_newa_char (hx : p.tables.exec = Jvm.exec) (hb : c.code = cc) (harr : (Jvm.Cond.arrayClass .char).before args s = true) (hK : va_K D vwCl (mm_tys cT) s) (hA : ∀ q, s.heap.size ≤ q → A q) {n : Int32} {N : Nat} {h' : mm_H} (h0 : ¬ n < 0) (hN : n.toNatClampNeg = N) (hbig : N * 2 ≤ 536870912) (hn : mm_new h (.inr (.inl (2, List.replicate N (0 : Int32)))) N = some h') (hd : decode cc pc = .ok (.newarray .char, 2)) (kk : mm_W p l e R s m args below meth c Q D cT zt A nL rho0 (pc + 2) L (vR h.1.length :: r) h') : mm_W p l e R s m args below meth c Q D cT zt A nL rho0 (pc) L (vI n :: r) h := by
  intro rho H locs cells slots ls hp hst hI
  obtain ⟨b1, b2, b3⟩ := mm_new_of hn
  have q1 := hI.2.2.2.2.2.2.2.1
  have q2 := hI.2.2.2.2.2.2.2.2
  refine va_newa hx hb (atype := .char) harr (ty := .char) rfl hK hI.2.2.2.1 hI.2.2.2.2.1 hI.2.2.2.2.2.1 hA (N' := N) (a0 := (N, .inl fun _ => (0 : Int32))) (fun _ => rfl) h0 hN hbig (by omega) (by omega) hd fun q cA H1 hK1 hP hD hS => ?_
  have hcA : cA = cT 2 := by
    have e1 : va_RA s cA .char := (hK1.2 6 (cA, .char) rfl).2
    have e2 : va_RA s (cT 2) .char := (hK.2 2 _ rfl).2
    exact Option.some.inj (e1.symm.trans e2)
  subst hcA
  have hI' := hI.made (x := .inr (.inl (2, List.replicate N (0 : Int32)))) hn trivial (by simp only [mm_e, List.length_replicate, mm_rep_getD]) hP hD hS
  have hz : (rho ++ [q]).getD h.1.length 0 = q := by rw [← hI.1]; simp [List.getD_eq_getElem?_getD]
  have := kk (rho ++ [q]) H1 locs (cells + 1) (slots + N) ls (hp.trans (List.prefix_append _ _)) (mm_okc (by show h.1.length < _; omega) (fun w hw => mm_ok_mono (by omega) (mm_okt hst w hw))) hI'
  rw [List.map_cons, mm_map_app (fun w hw => by rw [hI.1]; exact mm_okt hst w hw)] at this
  simp only [mm_v, hz] at this
  exact this
theorem mr_newa_long (hx : p.tables.exec = Jvm.exec) (hb : c.code = cc) (harr : (Jvm.Cond.arrayClass .long).before args s = true) (hK : va_K D vwCl (mm_tys cT) s) (hA : ∀ q, s.heap.size ≤ q → A q) {n : Int32} {N : Nat} {h' : mm_H} (h0 : ¬ n < 0) (hN : n.toNatClampNeg = N) (hbig : N * 8 ≤ 536870912) (hn : mm_new h (.inr (.inr (.inl (List.replicate N (0 : Int64))))) N = some h') (hd : decode cc pc = .ok (.newarray .long, 2)) (kk : mm_W p l e R s m args below meth c Q D cT zt A nL rho0 (pc + 2) L (vR h.1.length :: r) h') : mm_W p l e R s m args below meth c Q D cT zt A nL rho0 (pc) L (vI n :: r) h := by
  intro rho H locs cells slots ls hp hst hI
  obtain ⟨b1, b2, b3⟩ := mm_new_of hn
  have q1 := hI.2.2.2.2.2.2.2.1
  have q2 := hI.2.2.2.2.2.2.2.2
  refine va_newa hx hb (atype := .long) harr (ty := .long) rfl hK hI.2.2.2.1 hI.2.2.2.2.1 hI.2.2.2.2.2.1 hA (N' := N) (a0 := (N, .inr (.inl fun _ => (0 : Int64)))) (fun _ => rfl) h0 hN hbig (by omega) (by omega) hd fun q cA H1 hK1 hP hD hS => ?_
  have hcA : cA = cT 3 := by
    have e1 : va_RA s cA .long := (hK1.2 6 (cA, .long) rfl).2
    have e2 : va_RA s (cT 3) .long := (hK.2 3 _ rfl).2
    exact Option.some.inj (e1.symm.trans e2)
  subst hcA
  have hI' := hI.made (x := .inr (.inr (.inl (List.replicate N (0 : Int64))))) hn trivial (by simp only [mm_e, List.length_replicate, mm_rep_getD]) hP hD hS
  have hz : (rho ++ [q]).getD h.1.length 0 = q := by rw [← hI.1]; simp [List.getD_eq_getElem?_getD]
  have := kk (rho ++ [q]) H1 locs (cells + 1) (slots + N) ls (hp.trans (List.prefix_append _ _)) (mm_okc (by show h.1.length < _; omega) (fun w hw => mm_ok_mono (by omega) (mm_okt hst w hw))) hI'
  rw [List.map_cons, mm_map_app (fun w hw => by rw [hI.1]; exact mm_okt hst w hw)] at this
  simp only [mm_v, hz] at this
  exact this
theorem mr_newq (hx : p.tables.exec = Jvm.exec) (hb : c.code = cc) {own C : String} {index j : Nat} (hown : s.vm.findClass own = some m.cls) (hclink : (Jvm.Cond.classLink own index C).before args s = true) (hover : va_AO C s) (hK : va_K D vwCl (mm_tys cT) s) (ht : (mm_tys cT)[j + 4]? = some (cT (j + 4), .object C)) (hA : ∀ q, s.heap.size ≤ q → A q) {n : Int32} {N : Nat} {h' : mm_H} (h0 : ¬ n < 0) (hN : n.toNatClampNeg = N) (hbig : N * 4 ≤ 536870912) (hn : mm_new h (.inr (.inr (.inr (j, List.replicate N none)))) N = some h') (hd : decode cc pc = .ok (.anewarray index, 3)) (kk : mm_W p l e R s m args below meth c Q D cT zt A nL rho0 (pc + 3) L (vR h.1.length :: r) h') : mm_W p l e R s m args below meth c Q D cT zt A nL rho0 (pc) L (vI n :: r) h := by
  intro rho H locs cells slots ls hp hst hI
  obtain ⟨b1, b2, b3⟩ := mm_new_of hn
  have q1 := hI.2.2.2.2.2.2.2.1
  have q2 := hI.2.2.2.2.2.2.2.2
  refine va_newq hx hb hown hclink hover hK hI.2.2.2.1 hI.2.2.2.2.1 hI.2.2.2.2.2.1 hA (N' := N) h0 hN hbig (by omega) (by omega) hd fun q cA H1 hK1 hP hD hS => ?_
  have hcA : cA = cT (j + 4) := by
    obtain ⟨_, _, _, _, _, e1⟩ := (hK1.2 6 (cA, .object C) rfl).2
    obtain ⟨_, _, _, _, _, e2⟩ := (hK.2 _ _ ht).2
    exact Option.some.inj (e1.symm.trans e2)
  subst hcA
  have hI' := hI.made (x := .inr (.inr (.inr (j, List.replicate N none)))) hn (fun a ha => by simp at ha) (by simp only [mm_e, List.length_replicate, mm_rep_getD, mm_q, Option.map_none]) hP hD hS
  have hz : (rho ++ [q]).getD h.1.length 0 = q := by rw [← hI.1]; simp [List.getD_eq_getElem?_getD]
  have := kk (rho ++ [q]) H1 locs (cells + 1) (slots + N) ls (hp.trans (List.prefix_append _ _)) (mm_okc (by show h.1.length < _; omega) (fun w hw => mm_ok_mono (by omega) (mm_okt hst w hw))) hI'
  rw [List.map_cons, mm_map_app (fun w hw => by rw [hI.1]; exact mm_okt hst w hw)] at this
  simp only [mm_v, hz] at this
  exact this
theorem mr_alen (hx : p.tables.exec = Jvm.exec) (hb : c.code = cc) (hK : va_K D vwCl (mm_tys cT) s) {a : Nat} {n : Int32} (hv : mm_len h a = some n) (hd : decode cc pc = .ok (.arraylength, 1)) (kk : mm_W p l e R s m args below meth c Q D cT zt A nL rho0 (pc + 1) L (vI n :: r) h) : mm_W p l e R s m args below meth c Q D cT zt A nL rho0 (pc) L (vR a :: r) h := by
  intro rho H locs cells slots ls hp hst hI
  have k2 := kk rho H locs cells slots ls hp (mm_okc trivial (mm_okt hst)) hI
  unfold mm_len at hv
  split at hv
  · rename_i q hq
    split at hv
    · rename_i hk
      cases hv
      obtain ⟨kd, xs⟩ := q
      match kd, hk with
      | 0, _ => exact va_alen hx hb hK hI.2.2.2.1 a 0 (mm_at hI hq) rfl rfl hd k2
      | 1, _ => exact va_alen hx hb hK hI.2.2.2.1 a 1 (mm_at hI hq) rfl rfl hd k2
      | 2, _ => exact va_alen hx hb hK hI.2.2.2.1 a 2 (mm_at hI hq) rfl rfl hd k2
    · cases hv
  · rename_i xs hq
    cases hv
    exact va_alen hx hb hK hI.2.2.2.1 a 3 (mm_at hI hq) rfl rfl hd k2
  · rename_i q hq
    split at hv
    · rename_i hk
      cases hv
      obtain ⟨C, T, N, hC, -⟩ := mm_tys_q (cT := cT) hk
      exact va_alen hx hb hK hI.2.2.2.1 a (q.1 + 4) (mm_at hI hq) hC rfl hd k2
    · cases hv
  · cases hv
theorem mm_getD_of {α : Type} {xs : List α} {k : Nat} {x d : α} (h : xs[k]? = some x) : xs.getD k d = x := by simp [List.getD_eq_getElem?_getD, h]
theorem mm_set_getD {α : Type} {xs : List α} {k : Nat} (x d : α) (hk : k < xs.length) (j : Nat) : (xs.set k x).getD j d = if j = k then x else xs.getD j d := by
  by_cases hj : j = k
  · subst hj; simp [List.getD_eq_getElem?_getD, hk]
  · simp [List.getD_eq_getElem?_getD, List.getElem?_set_ne (Ne.symm hj), hj]
theorem mr_iald (hx : p.tables.exec = Jvm.exec) (hb : c.code = cc) (hK : va_K D vwCl (mm_tys cT) s) {a : Nat} {i x : Int32} (hv : mm_iald h a 0 i = some x) (hd : decode cc pc = .ok (.iaload, 1)) (kk : mm_W p l e R s m args below meth c Q D cT zt A nL rho0 (pc + 1) L (vI x :: r) h) : mm_W p l e R s m args below meth c Q D cT zt A nL rho0 (pc) L (vI i :: vR a :: r) h := by
  intro rho H locs cells slots ls hp hst hI
  simp only [mm_iald, Option.bind_eq_some_iff] at hv
  obtain ⟨xs, h1, k, h2, h3⟩ := hv
  obtain ⟨g1, g2, g3⟩ := mm_ix_of h2
  refine va_iald hx hb hK hI.2.2.2.1 a 0 (mm_at hI (mm_int_of h1)) rfl g1 hd ?_
  rw [g2, mm_getD_of h3]
  exact kk rho H locs cells slots ls hp (mm_okc trivial (mm_okt (mm_okt hst))) hI
theorem mr_iast (hx : p.tables.exec = Jvm.exec) (hb : c.code = cc) (hK : va_K D vwCl (mm_tys cT) s) {a : Nat} {i x : Int32} {h' : mm_H} (hv : mm_iast h a 0 i (x) = some h') (hd : decode cc pc = .ok (.iastore, 1)) (kk : mm_W p l e R s m args below meth c Q D cT zt A nL rho0 (pc + 1) L (r) h') : mm_W p l e R s m args below meth c Q D cT zt A nL rho0 (pc) L (vI x :: vI i :: vR a :: r) h := by
  intro rho H locs cells slots ls hp hst hI
  simp only [mm_iast, Option.bind_eq_some_iff, Option.map_eq_some_iff] at hv
  obtain ⟨xs, h1, k, h2, rfl⟩ := hv
  obtain ⟨g1, g2, g3⟩ := mm_ix_of h2
  refine va_iast hx hb hK hI.2.2.2.1 hI.2.2.2.2.1 hI.2.2.2.2.2.1 a 0 (mm_at hI (mm_int_of h1)) rfl g1 hd fun H1 locs1 hP hD hS => ?_
  have hE : (Sum.inl (cT 0, xs.length, .inl (upd (fun j => xs.getD j 0) i.toNatClampNeg (x))) : va_E) = mm_e rho zt cT (.inr (.inl (0, xs.set k (x)))) := by
    simp only [mm_e, List.length_set]
    have hf : upd (fun j => xs.getD j 0) i.toNatClampNeg (x) = fun j => (xs.set k (x)).getD j 0 := by
      funext j
      rw [mm_set_getD (x) 0 g3 j, g2]
      rfl
    rw [hf]
  exact kk rho H1 locs1 cells slots ls hp (by rw [List.length_set]; exact mm_okt (mm_okt (mm_okt hst))) (hI.wrote (mm_int_of h1) trivial (by rw [← hE]; exact hP) (by rw [← hE]; exact hD) hS)
theorem mr_bald (hx : p.tables.exec = Jvm.exec) (hb : c.code = cc) (hK : va_K D vwCl (mm_tys cT) s) {a : Nat} {i x : Int32} (hv : mm_iald h a 1 i = some x) (hd : decode cc pc = .ok (.baload, 1)) (kk : mm_W p l e R s m args below meth c Q D cT zt A nL rho0 (pc + 1) L (vI x :: r) h) : mm_W p l e R s m args below meth c Q D cT zt A nL rho0 (pc) L (vI i :: vR a :: r) h := by
  intro rho H locs cells slots ls hp hst hI
  simp only [mm_iald, Option.bind_eq_some_iff] at hv
  obtain ⟨xs, h1, k, h2, h3⟩ := hv
  obtain ⟨g1, g2, g3⟩ := mm_ix_of h2
  refine va_bald hx hb hK hI.2.2.2.1 a 1 (mm_at hI (mm_int_of h1)) rfl g1 hd ?_
  rw [g2, mm_getD_of h3]
  exact kk rho H locs cells slots ls hp (mm_okc trivial (mm_okt (mm_okt hst))) hI
theorem mr_bast (hx : p.tables.exec = Jvm.exec) (hb : c.code = cc) (hK : va_K D vwCl (mm_tys cT) s) {a : Nat} {i x : Int32} {h' : mm_H} (hv : mm_iast h a 1 i (vp_nar .byte x) = some h') (hd : decode cc pc = .ok (.bastore, 1)) (kk : mm_W p l e R s m args below meth c Q D cT zt A nL rho0 (pc + 1) L (r) h') : mm_W p l e R s m args below meth c Q D cT zt A nL rho0 (pc) L (vI x :: vI i :: vR a :: r) h := by
  intro rho H locs cells slots ls hp hst hI
  simp only [mm_iast, Option.bind_eq_some_iff, Option.map_eq_some_iff] at hv
  obtain ⟨xs, h1, k, h2, rfl⟩ := hv
  obtain ⟨g1, g2, g3⟩ := mm_ix_of h2
  refine va_bast hx hb hK hI.2.2.2.1 hI.2.2.2.2.1 hI.2.2.2.2.2.1 a 1 (mm_at hI (mm_int_of h1)) rfl g1 hd fun H1 locs1 hP hD hS => ?_
  have hE : (Sum.inl (cT 1, xs.length, .inl (upd (fun j => xs.getD j 0) i.toNatClampNeg (vp_nar .byte x))) : va_E) = mm_e rho zt cT (.inr (.inl (1, xs.set k (vp_nar .byte x)))) := by
    simp only [mm_e, List.length_set]
    have hf : upd (fun j => xs.getD j 0) i.toNatClampNeg (vp_nar .byte x) = fun j => (xs.set k (vp_nar .byte x)).getD j 0 := by
      funext j
      rw [mm_set_getD (vp_nar .byte x) 0 g3 j, g2]
      rfl
    rw [hf]
  exact kk rho H1 locs1 cells slots ls hp (by rw [List.length_set]; exact mm_okt (mm_okt (mm_okt hst))) (hI.wrote (mm_int_of h1) trivial (by rw [← hE]; exact hP) (by rw [← hE]; exact hD) hS)
theorem mr_cald (hx : p.tables.exec = Jvm.exec) (hb : c.code = cc) (hK : va_K D vwCl (mm_tys cT) s) {a : Nat} {i x : Int32} (hv : mm_iald h a 2 i = some x) (hd : decode cc pc = .ok (.caload, 1)) (kk : mm_W p l e R s m args below meth c Q D cT zt A nL rho0 (pc + 1) L (vI x :: r) h) : mm_W p l e R s m args below meth c Q D cT zt A nL rho0 (pc) L (vI i :: vR a :: r) h := by
  intro rho H locs cells slots ls hp hst hI
  simp only [mm_iald, Option.bind_eq_some_iff] at hv
  obtain ⟨xs, h1, k, h2, h3⟩ := hv
  obtain ⟨g1, g2, g3⟩ := mm_ix_of h2
  refine va_cald hx hb hK hI.2.2.2.1 a 2 (mm_at hI (mm_int_of h1)) rfl g1 hd ?_
  rw [g2, mm_getD_of h3]
  exact kk rho H locs cells slots ls hp (mm_okc trivial (mm_okt (mm_okt hst))) hI
theorem mr_cast (hx : p.tables.exec = Jvm.exec) (hb : c.code = cc) (hK : va_K D vwCl (mm_tys cT) s) {a : Nat} {i x : Int32} {h' : mm_H} (hv : mm_iast h a 2 i (vp_nar .char x) = some h') (hd : decode cc pc = .ok (.castore, 1)) (kk : mm_W p l e R s m args below meth c Q D cT zt A nL rho0 (pc + 1) L (r) h') : mm_W p l e R s m args below meth c Q D cT zt A nL rho0 (pc) L (vI x :: vI i :: vR a :: r) h := by
  intro rho H locs cells slots ls hp hst hI
  simp only [mm_iast, Option.bind_eq_some_iff, Option.map_eq_some_iff] at hv
  obtain ⟨xs, h1, k, h2, rfl⟩ := hv
  obtain ⟨g1, g2, g3⟩ := mm_ix_of h2
  refine va_cast hx hb hK hI.2.2.2.1 hI.2.2.2.2.1 hI.2.2.2.2.2.1 a 2 (mm_at hI (mm_int_of h1)) rfl g1 hd fun H1 locs1 hP hD hS => ?_
  have hE : (Sum.inl (cT 2, xs.length, .inl (upd (fun j => xs.getD j 0) i.toNatClampNeg (vp_nar .char x))) : va_E) = mm_e rho zt cT (.inr (.inl (2, xs.set k (vp_nar .char x)))) := by
    simp only [mm_e, List.length_set]
    have hf : upd (fun j => xs.getD j 0) i.toNatClampNeg (vp_nar .char x) = fun j => (xs.set k (vp_nar .char x)).getD j 0 := by
      funext j
      rw [mm_set_getD (vp_nar .char x) 0 g3 j, g2]
      rfl
    rw [hf]
  exact kk rho H1 locs1 cells slots ls hp (by rw [List.length_set]; exact mm_okt (mm_okt (mm_okt hst))) (hI.wrote (mm_int_of h1) trivial (by rw [← hE]; exact hP) (by rw [← hE]; exact hD) hS)
theorem mr_lald (hx : p.tables.exec = Jvm.exec) (hb : c.code = cc) (hK : va_K D vwCl (mm_tys cT) s) {a : Nat} {i : Int32} {x : Int64} (hv : mm_lald h a i = some x) (hd : decode cc pc = .ok (.laload, 1)) (kk : mm_W p l e R s m args below meth c Q D cT zt A nL rho0 (pc + 1) L (vJ x :: r) h) : mm_W p l e R s m args below meth c Q D cT zt A nL rho0 (pc) L (vI i :: vR a :: r) h := by
  intro rho H locs cells slots ls hp hst hI
  simp only [mm_lald, Option.bind_eq_some_iff] at hv
  obtain ⟨xs, h1, k, h2, h3⟩ := hv
  obtain ⟨g1, g2, g3⟩ := mm_ix_of h2
  refine va_lald hx hb hK hI.2.2.2.1 a 3 (mm_at hI (mm_lng_of h1)) rfl g1 hd ?_
  rw [g2, mm_getD_of h3]
  exact kk rho H locs cells slots ls hp (mm_okc trivial (mm_okt (mm_okt hst))) hI
theorem mr_last (hx : p.tables.exec = Jvm.exec) (hb : c.code = cc) (hK : va_K D vwCl (mm_tys cT) s) {a : Nat} {i : Int32} {x : Int64} {h' : mm_H} (hv : mm_last h a i x = some h') (hd : decode cc pc = .ok (.lastore, 1)) (kk : mm_W p l e R s m args below meth c Q D cT zt A nL rho0 (pc + 1) L (r) h') : mm_W p l e R s m args below meth c Q D cT zt A nL rho0 (pc) L (vJ x :: vI i :: vR a :: r) h := by
  intro rho H locs cells slots ls hp hst hI
  simp only [mm_last, Option.bind_eq_some_iff, Option.map_eq_some_iff] at hv
  obtain ⟨xs, h1, k, h2, rfl⟩ := hv
  obtain ⟨g1, g2, g3⟩ := mm_ix_of h2
  refine va_last hx hb hK hI.2.2.2.1 hI.2.2.2.2.1 hI.2.2.2.2.2.1 a 3 (mm_at hI (mm_lng_of h1)) rfl g1 hd fun H1 locs1 hP hD hS => ?_
  have hE : (Sum.inl (cT 3, xs.length, .inr (.inl (vp_updL (fun j => xs.getD j 0) i.toNatClampNeg x))) : va_E) = mm_e rho zt cT (.inr (.inr (.inl (xs.set k x)))) := by
    simp only [mm_e, List.length_set]
    have hf : vp_updL (fun j => xs.getD j 0) i.toNatClampNeg x = fun j => (xs.set k x).getD j 0 := by
      funext j
      rw [mm_set_getD x 0 g3 j, g2]
      rfl
    rw [hf]
  exact kk rho H1 locs1 cells slots ls hp (by rw [List.length_set]; exact mm_okt (mm_okt (mm_okt hst))) (hI.wrote (mm_lng_of h1) trivial (by rw [← hE]; exact hP) (by rw [← hE]; exact hD) hS)
theorem mr_aald (hx : p.tables.exec = Jvm.exec) (hb : c.code = cc) (hK : va_K D vwCl (mm_tys cT) s) {a : Nat} {i : Int32} {y : Option Nat} (hv : mm_aald h a i = some y) (hd : decode cc pc = .ok (.aaload, 1)) (kk : mm_W p l e R s m args below meth c Q D cT zt A nL rho0 (pc + 1) L (vQ y :: r) h) : mm_W p l e R s m args below meth c Q D cT zt A nL rho0 (pc) L (vI i :: vR a :: r) h := by
  intro rho H locs cells slots ls hp hst hI
  simp only [mm_aald, Option.bind_eq_some_iff] at hv
  obtain ⟨q, h1, k, h2, h3⟩ := hv
  obtain ⟨g1, g2, g3⟩ := mm_ix_of h2
  obtain ⟨h1, hq2⟩ := mm_refs_of h1
  obtain ⟨C, T, N, hC, -⟩ := mm_tys_q (cT := cT) hq2
  refine va_aldq hx hb hK hI.2.2.2.1 a (q.1 + 4) (mm_at hI h1) hC g1 hd ?_
  rw [g2, mm_getD_of h3, ← mm_vQ (zt := zt)]
  refine kk rho H locs cells slots ls hp (mm_okc ?_ (mm_okt (mm_okt hst))) hI
  cases y with
  | none => trivial
  | some b => exact hI.2.1 _ (List.mem_of_getElem? h1) b (List.mem_of_getElem? h3)
theorem mr_aast (hx : p.tables.exec = Jvm.exec) (hb : c.code = cc) (hK : va_K D vwCl (mm_tys cT) s) {a : Nat} {i : Int32} {y : Option Nat} {h' : mm_H} (hv : mm_aast h a i y = some h') (hd : decode cc pc = .ok (.aastore, 1)) (kk : mm_W p l e R s m args below meth c Q D cT zt A nL rho0 (pc + 1) L (r) h') : mm_W p l e R s m args below meth c Q D cT zt A nL rho0 (pc) L (vQ y :: vI i :: vR a :: r) h := by
  intro rho H locs cells slots ls hp hst hI
  simp only [mm_aast, Option.bind_eq_some_iff] at hv
  obtain ⟨q, h1, hv⟩ := hv
  split at hv
  · rename_i hof
    simp only [Option.map_eq_some_iff] at hv
    obtain ⟨k, h2, rfl⟩ := hv
    obtain ⟨g1, g2, g3⟩ := mm_ix_of h2
    obtain ⟨h1, hq2⟩ := mm_refs_of h1
    obtain ⟨C, T, N, hC, hcl⟩ := mm_tys_q (cT := cT) hq2
    have hE : ∀ y0 : Option Nat, mm_q rho y = y0 → (Sum.inl (cT (q.1 + 4), q.2.length, .inr (.inr (.inr (.inr (va_up (fun j => mm_q rho (q.2.getD j none)) i.toNatClampNeg y0))))) : va_E) = mm_e rho zt cT (.inr (.inr (.inr (q.1, q.2.set k y)))) := by
      intro y0 hy
      have hf : va_up (fun j => mm_q rho (q.2.getD j none)) i.toNatClampNeg y0 = fun j => mm_q rho ((q.2.set k y).getD j none) := by
        funext j
        rw [mm_set_getD y none g3 j, g2]
        simp only [va_up]
        split
        · rw [hy]
        · rfl
      simp only [mm_e, List.length_set]
      rw [hf]
    have hok : mm_okO h.1.length (.inr (.inr (.inr (q.1, q.2.set k y)))) := by
      intro b hb2
      rcases mm_mem_set hb2 with z | z
      · exact hI.2.1 _ (List.mem_of_getElem? h1) b z
      · have := mm_okh hst
        rw [← z] at this
        exact this
    cases y with
    | none =>
      refine va_astqN hx hb hK hI.2.2.2.1 hI.2.2.2.2.1 hI.2.2.2.2.2.1 a (q.1 + 4) (mm_at hI h1) hC g1 hd fun H1 locs1 hP hD hS => ?_
      exact kk rho H1 locs1 cells slots ls hp (by rw [List.length_set]; exact mm_okt (mm_okt (mm_okt hst))) (hI.wrote h1 hok (by rw [← hE none rfl]; exact hP) (by rw [← hE none rfl]; exact hD) hS)
    | some b =>
      simp only [mm_of] at hof
      split at hof
      · rename_i cq fs hcell
        have hcq : cq = mm_el q.1 := by simpa using hof
        subst hcq
        refine va_astq hx hb hK hI.2.2.2.1 hI.2.2.2.2.1 hI.2.2.2.2.2.1 a (q.1 + 4) b (mm_el q.1) (mm_at hI h1) hC (mm_at hI hcell) hcl g1 hd fun H1 locs1 hP hD hS => ?_
        exact kk rho H1 locs1 cells slots ls hp (by rw [List.length_set]; exact mm_okt (mm_okt (mm_okt hst))) (hI.wrote h1 hok (by rw [← hE (some (rho.getD b 0)) rfl]; exact hP) (by rw [← hE (some (rho.getD b 0)) rfl]; exact hD) hS)
      · cases hof
  · cases hv
theorem mr_zlen (hx : p.tables.exec = Jvm.exec) (hb : c.code = cc) {j n : Nat} {f : Nat → Value} (hT : va_T .int (zt j) n f A s s.heap) (hd : decode cc pc = .ok (.arraylength, 1)) (kk : mm_W p l e R s m args below meth c Q D cT zt A nL rho0 (pc + 1) L (vI (Int32.ofNat n) :: r) h) : mm_W p l e R s m args below meth c Q D cT zt A nL rho0 (pc) L (vZ j :: r) h :=
  fun rho H locs cells slots ls hp hst hI => va_tlen hx hb hT hI.2.2.2.2.2.1 rfl hd (kk rho H locs cells slots ls hp (mm_okc trivial (mm_okt hst)) hI)
theorem mr_zald (hx : p.tables.exec = Jvm.exec) (hb : c.code = cc) {Z : Nat → List Int32} {j : Nat} (hT : va_T .int (zt j) (Z j).length (fun k => .int ((Z j).getD k 0)) A s s.heap) {i x : Int32} (hv : mm_zald Z j i = some x) (hd : decode cc pc = .ok (.iaload, 1)) (kk : mm_W p l e R s m args below meth c Q D cT zt A nL rho0 (pc + 1) L (vI x :: r) h) : mm_W p l e R s m args below meth c Q D cT zt A nL rho0 (pc) L (vI i :: vZ j :: r) h := by
  intro rho H locs cells slots ls hp hst hI
  simp only [mm_zald, Option.bind_eq_some_iff] at hv
  obtain ⟨k, h2, h3⟩ := hv
  obtain ⟨g1, g2, g3⟩ := mm_ix_of h2
  exact va_ti hx hb hT hI.2.2.2.2.2.1 g1 (v := .int x) (by rw [g2, mm_getD_of h3]) hd (kk rho H locs cells slots ls hp (mm_okc trivial (mm_okt (mm_okt hst))) hI)
theorem mr_getsN (hx : p.tables.exec = Jvm.exec) (hb : c.code = cc) {C n d own host : String} {index j : Nat} (hZ : va_Z C n d (.ref (zt j)) A s s.heap) (hown : s.vm.findClass own = some m.cls) (hl : (Jvm.Cond.fieldLinkNest own index C n d host).before args s = true) (hd : decode cc pc = .ok (.getstatic index, 3)) (kk : mm_W p l e R s m args below meth c Q D cT zt A nL rho0 (pc + 3) L (vZ j :: r) h) : mm_W p l e R s m args below meth c Q D cT zt A nL rho0 (pc) L (r) h :=
  fun rho H locs cells slots ls hp hst hI => va_getsN hx hb hZ hI.2.2.2.2.2.1 hown hl (fun _ z => z) hd (kk rho H locs cells slots ls hp (mm_okc trivial hst) hI)
theorem mr_objInit (hx : p.tables.exec = Jvm.exec) (hb : c.code = cc) {own : String} {idx : Nat} (hml : c.maxLocals = nL) (hown : s.vm.findClass own = some m.cls) (hlink : (Jvm.Cond.methodLink own idx Lib.objectInit).before args s = true) (hinst : (Jvm.Cond.instanceMethod Lib.objectInit).before args s = true) (hcode : (Jvm.Cond.code Lib.objectInit ⟨#[0xb1]⟩ 1 none).before args s = true) (hfr : 1 ≤ R.frames) (hlo : 44 ≤ R.locals) (hlen : r.length ≤ 16) {a : Nat} (hd : decode cc pc = .ok (.invokespecial idx, 3)) (kk : mm_W p l e R s m args below meth c Q D cT zt A nL rho0 (pc + 3) L (r) h) : mm_W p l e R s m args below meth c Q D cT zt A nL rho0 (pc) L (vR a :: r) h := by
  intro rho H locs cells slots ls hp hst hI
  refine W.objInit hx hb hown hlink hinst hcode rfl (by rw [hml]; exact hI.2.2.2.2.2.2.1.2.1) rfl hd hfr ?_ (kk rho H locs cells slots ls hp (mm_okt hst) hI)
  have hcat : ∀ (l : List Value), (l.map fun v => v.category).sum ≤ 2 * l.length := by
    intro l
    induction l with
    | nil => simp
    | cons v l ih =>
      have := lv_cat v
      simp only [List.map_cons, List.sum_cons, List.length_cons]
      omega
  have := hcat (r.map (mm_v rho zt))
  rw [List.length_map] at this
  show 2 * 0 + _ + 12 ≤ _
  omega
end MR
