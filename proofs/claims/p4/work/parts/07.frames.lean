/-! FRAMES, ENDS, CALLS of the small machine over the real one -/
def mm_thr (x : Addr) (C : String) (t : State) : Prop := ∃ cell : Cell, t.heap[x]? = some cell ∧ cell.vm.isStatics = false ∧ t.vm.findClass C = some cell.cls
def mm_out (h' : mm_H) (rho : List Nat) (zt : Nat → Nat) (r : mm_A) (o : Outcome) (t : State) : Prop := match r with
  | .inl v => o = .returned (v.map (mm_v rho zt)) ∧ ∀ w, v = some w → mm_ok h'.1.length w
  | .inr ex => ∃ x, o = .threw x ∧ mm_thr x (mm_ex ex) t
/-- a method's end: what its answer and its heap are; what has changed -/
def mm_End (R : Room) (s : State) (below : List Frame) (D : va_G) (cT : Nat → ClassId) (zt : Nat → Nat) (A : Nat → Prop) (rho0 : List Nat) (Post : mm_A → mm_H → Prop) : State → Prop := fun t => ∃ (r : mm_A) (h' : mm_H) (rho : List Nat) (o : Outcome) (Lc : List Loc) (k n : Nat), Post r h' ∧ t.status = .running ∧ Ended t below o ∧ mm_out h' rho zt r o t ∧ s.WarmedH t.vm ∧ s.sameButNew ({ t with vm := s.vm } : State) Lc k n ∧ rho0 <+: rho ∧ rho.length = h'.1.length ∧ (∀ x ∈ h'.1, mm_okO h'.1.length x) ∧ va_P D vwCl (mm_w rho zt cT h'.1) t.heap ∧ va_D A (mm_w rho zt cT h'.1) ∧ va_S A s.heap t.heap Lc ∧ k + h'.2.1 ≤ R.cells ∧ n + h'.2.2 ≤ R.slots
/-- a static of Throwable: it is laid, and holds a reference or null -/
def mm_Zl (C n d : String) (A : Nat → Prop) (s : State) : Prop := va_Zq C n d A s s.heap ∧ ∀ args : Array Value, (Jvm.Cond.laysStatic C n d).before args s = true
theorem mm_Zl_of {C n d : String} {A : Nat → Prop} {s : State} {args : Array Value} (h : va_Zq C n d A s s.heap) (hl : (Jvm.Cond.laysStatic C n d).before args s = true) : mm_Zl C n d A s := by
  refine ⟨h, fun a' => ?_⟩
  obtain ⟨c, k, i, f, a, cell, hc, hi, hst, ha, hcell, hs, hcls, hlt, hty⟩ := Cond.laysStatic_spec hl
  exact Cond.laysStatic_of hc hi hst ha hcell hs hcls hlt hty
theorem mm_Zl.moved {C n d : String} {s U : State} {A B : Nat → Prop} (hvm : s.vm.Alike U.vm) (hk : ∀ q : Nat, q < s.heap.size → ¬ A q → U.heap[q]? = s.heap[q]?) (hAB : ∀ q, B q → A q) (h : mm_Zl C n d A s) : mm_Zl C n d B U := by
  obtain ⟨hz, hl⟩ := h
  refine ⟨?_, fun a' => ?_⟩
  · have h1 := (hz.kept hk).moved hvm
    rcases h1 with h1 | ⟨t, h1⟩
    · exact Or.inl (h1.narrow hAB)
    · exact Or.inr ⟨t, h1.narrow hAB⟩
  · obtain ⟨c, k, i, f, a, cell, hc, hi, hst, ha, hcell, hs, hcls, hlt, hty⟩ := Cond.laysStatic_spec (hl #[])
    have hna : ¬ A a := by
      rcases hz with ⟨cf, kf, fi, f2, a2, cell2, h1, h2, h3, h4, h5, h6, h7, h8⟩ | ⟨t, cf, kf, fi, f2, a2, cell2, h1, h2, h3, h4, h5, h6, h7, h8⟩
      · cases hi.symm.trans h1
        cases ha.symm.trans h4
        exact h8
      · cases hi.symm.trans h1
        cases ha.symm.trans h4
        exact h8
    obtain ⟨k', hi', hek⟩ := State.fieldFound?_setVm hvm hi
    have hi2 : U.fieldFound? C n d = some (c, k', i, f) := by simpa only [State.fieldFound?, State.vm_setVm] using hi'
    exact Cond.laysStatic_of (by rw [hvm.findClass]; exact hc) hi2 hst (by rw [hek]; exact ha) (by rw [hk a (Array.getElem?_eq_some_iff.mp hcell).1 hna]; exact hcell) hs hcls hlt (by rw [hek]; exact hty)
/-- the constant array of the class; the two statics of Throwable that hold a reference or null -/
def mm_Zs (Z : Nat → List Int32) (s : State) (zt : Nat → Nat) (A : Nat → Prop) : Prop :=
  va_Z "LispForge" "STEP_LENGTHS" "[I" (.ref (zt 0)) A s s.heap ∧ (∀ j, j < 2 → va_T .int (zt j) (Z j).length (fun k => .int ((Z j).getD k 0)) A s s.heap) ∧ mm_Zl "java/lang/Throwable" "UNASSIGNED_STACK" "[Ljava/lang/StackTraceElement;" A s ∧ mm_Zl "java/lang/Throwable" "SUPPRESSED_SENTINEL" "Ljava/util/List;" A s
/-- what the tables say at a frame's start -/
def mm_T (Z : Nat → List Int32) (s : State) (D : va_G) (cT : Nat → ClassId) (zt : Nat → Nat) (A : Nat → Prop) : Prop :=
  (∀ w ∈ lw_tbl, mm_gd w = true → w.before #[] s = true) ∧ va_K D vwCl (mm_tys cT) s ∧ (∀ C ∈ mm_over, va_AO C s) ∧ mm_Zs Z s zt A
/-- a frame of the method mi, d frames of room under it -/
def mm_F (Z : Nat → List Int32) (mi d : Nat) (p : Program) (e : Env) (R : Room) (s : State) (m : MethodId) (meth : Method) (c : Code) (D : va_G) (cT : Nat → ClassId) (zt : Nat → Nat) (A : Nat → Prop) : Prop :=
  p.tables.exec = Jvm.exec ∧ e.platform.stackTraces = false ∧ c.code = mm_cd mi ∧ meth.sig.returnType = mm_rt mi ∧ c.maxLocals = mm_ml mi ∧ s.vm.findClass (mm_nm mi).cls = some m.cls ∧ meth.name = (mm_nm mi).name ∧ meth.locks = false ∧ c.exceptionTable.toList.map mm_et = mm_hd mi ∧ d ≤ R.frames ∧ 64 * d ≤ R.locals ∧ (∀ q, s.heap.size ≤ q → A q) ∧ mm_T Z s D cT zt A
/-- THE CONTRACT: the method mi, called with the values vs over the heap h, ends, and Post holds of answer and heap -/
def mm_G (Z : Nat → List Int32) (d mi : Nat) (vs : List mm_V) (h : mm_H) (Post : mm_A → mm_H → Prop) : Prop :=
  ∀ (p : Program) (l : Launch) (e : Env) (R : Room) (s : State) (m : MethodId) (below : List Frame) (meth : Method) (c : Code) (D : va_G) (cT : Nat → ClassId) (zt : Nat → Nat) (A : Nat → Prop) (rho : List Nat), mm_F Z mi d p e R s m meth c D cT zt A → (∀ v ∈ vs, mm_ok h.1.length v) → rho.length = h.1.length → (∀ x ∈ h.1, mm_okO h.1.length x) → va_P D vwCl (mm_w rho zt cT h.1) s.heap → va_D A (mm_w rho zt cT h.1) → h.2.1 ≤ R.cells → h.2.2 ≤ R.slots →
    W p l e R s m (vs.map (mm_v rho zt)).toArray below meth c s.heap [] 0 0 (mm_End R s below D cT zt A rho Post) (entryFrame m (vs.map (mm_v rho zt)).toArray (mm_ml mi))
/-- at the place pc of the method mi -/
def mm_P (Z : Nat → List Int32) (d mi pc : Nat) (L : mm_L) (st : List mm_V) (h : mm_H) (Post : mm_A → mm_H → Prop) : Prop :=
  ∀ (p : Program) (l : Launch) (e : Env) (R : Room) (s : State) (m : MethodId) (args : Array Value) (below : List Frame) (meth : Method) (c : Code) (D : va_G) (cT : Nat → ClassId) (zt : Nat → Nat) (A : Nat → Prop) (rho0 : List Nat), mm_F Z mi d p e R s m meth c D cT zt A → mm_W p l e R s m args below meth c (mm_End R s below D cT zt A rho0 Post) D cT zt A (mm_ml mi) rho0 pc L st h
/-! the entry -/
def mm_argsL : List mm_V → mm_L
  | [] => []
  | v :: vs => match v with
    | .inr (.inl x) => some (vJ x) :: none :: mm_argsL vs
    | v => some v :: mm_argsL vs
def mm_ent (n : Nat) (vs : List mm_V) : mm_L := mm_argsL vs ++ List.replicate (n - (mm_argsL vs).length) none
theorem mm_sl_len (rho : List Nat) (zt : Nat → Nat) : ∀ vs : List mm_V, (lg_sl (vs.map (mm_v rho zt))).length = (mm_argsL vs).length
  | [] => rfl
  | v :: vs => by
    have ih := mm_sl_len rho zt vs
    unfold lg_sl at ih ⊢
    rw [List.map_cons, List.flatMap_cons, List.length_append, ih]
    obtain x | x | (_ | a) | j := v <;> simp [mm_v, Value.category, mm_argsL] <;> omega
theorem mm_args_mem (rho : List Nat) (zt : Nat → Nat) : ∀ (vs : List mm_V) (b i : Nat) (v : mm_V), (mm_argsL vs)[i]? = some (some v) → (b + i, mm_v rho zt v) ∈ lv_args b (vs.map (mm_v rho zt))
  | [], b, i, v, h => by simp [mm_argsL] at h
  | w :: vs, b, i, v, h => by
    rw [List.map_cons]
    unfold lv_args
    have ih := mm_args_mem rho zt vs
    obtain x | x | (_ | a) | j := w
    · cases i with
      | zero => simp [mm_argsL] at h; subst h; exact List.mem_cons_self
      | succ i => simp [mm_argsL] at h; refine List.mem_cons_of_mem _ ?_; have := ih (b + 1) i v h; rw [if_neg (by simp [mm_v, Value.category])]; rw [show b + (i + 1) = b + 1 + i by omega]; exact this
    · cases i with
      | zero => simp [mm_argsL] at h; subst h; exact List.mem_cons_self
      | succ i => cases i with
        | zero => simp [mm_argsL] at h
        | succ i => simp [mm_argsL] at h; refine List.mem_cons_of_mem _ ?_; have := ih (b + 2) i v h; rw [if_pos (by simp [mm_v, Value.category])]; rw [show b + (i + 1 + 1) = b + 2 + i by omega]; exact this
    · cases i with
      | zero => simp [mm_argsL] at h; subst h; exact List.mem_cons_self
      | succ i => simp [mm_argsL] at h; refine List.mem_cons_of_mem _ ?_; have := ih (b + 1) i v h; rw [if_neg (by simp [mm_v, Value.category])]; rw [show b + (i + 1) = b + 1 + i by omega]; exact this
    · cases i with
      | zero => simp [mm_argsL] at h; subst h; exact List.mem_cons_self
      | succ i => simp [mm_argsL] at h; refine List.mem_cons_of_mem _ ?_; have := ih (b + 1) i v h; rw [if_neg (by simp [mm_v, Value.category])]; rw [show b + (i + 1) = b + 1 + i by omega]; exact this
    · cases i with
      | zero => simp [mm_argsL] at h; subst h; exact List.mem_cons_self
      | succ i => simp [mm_argsL] at h; refine List.mem_cons_of_mem _ ?_; have := ih (b + 1) i v h; rw [if_neg (by simp [mm_v, Value.category])]; rw [show b + (i + 1) = b + 1 + i by omega]; exact this
theorem mm_args_in : ∀ (vs : List mm_V) (v : mm_V), some v ∈ mm_argsL vs → v ∈ vs
  | [], v, h => by simp [mm_argsL] at h
  | w :: vs, v, h => by
    have ih := mm_args_in vs v
    obtain x | x | (_ | a) | j := w <;> simp [mm_argsL] at h <;> rcases h with h | h <;> simp_all
theorem mm_rep_in {n : Nat} {v : mm_V} {l : mm_L} (h : some v ∈ l ++ List.replicate n none) : some v ∈ l := by
  rcases List.mem_append.mp h with h | h
  · exact h
  · simp at h
/-- a method's contract from its first place -/
theorem mm_G_of {Z : Nat → List Int32} {d mi : Nat} {vs : List mm_V} {h : mm_H} {Post : mm_A → mm_H → Prop} (hn : (mm_argsL vs).length ≤ mm_ml mi) (k : mm_P Z d mi 0 (mm_ent (mm_ml mi) vs) [] h Post) : mm_G Z d mi vs h Post := by
  intro p l e R s m below meth c D cT zt A rho hF hvs hl hok hP hD h1 h2
  have hle : (lg_sl (vs.map (mm_v rho zt))).length ≤ mm_ml mi := by rw [mm_sl_len]; exact hn
  have hls := lv_entry (vs.map (mm_v rho zt)) hle
  rw [lg_entry_eq]
  generalize (lg_sl (vs.map (mm_v rho zt)) ++ List.replicate (mm_ml mi - (lg_sl (vs.map (mm_v rho zt))).length) Slot.unset).toArray = ls at hls ⊢
  refine k p l e R s m _ below meth c D cT zt A rho hF rho s.heap [] 0 0 ls (List.prefix_refl _) (fun v hv => by cases hv) ⟨hl, hok, fun v hv => hvs v (mm_args_in vs v (mm_rep_in hv)), hP, hD, va_S.rf, ⟨?_, hls.1, hls.2.1, fun i v hi => ?_⟩, by omega, by omega⟩
  · simp only [mm_ent, List.length_append, List.length_replicate]; omega
  · have hi2 : (mm_argsL vs)[i]? = some (some v) := by
      unfold mm_ent at hi
      by_cases hil : i < (mm_argsL vs).length
      · rwa [List.getElem?_append_left hil] at hi
      · rw [List.getElem?_append_right (by omega), List.getElem?_replicate] at hi
        split at hi <;> cases hi
    have := mm_args_mem rho zt vs 0 i v hi2
    rw [Nat.zero_add] at this
    exact hls.2.2 _ this
section ME
variable {Z : Nat → List Int32} {p : Program} {l : Launch} {e : Env} {R : Room} {s : State} {m : MethodId} {args : Array Value} {below : List Frame} {meth : Method} {c : Code} {Post : mm_A → mm_H → Prop} {D : va_G} {cT : Nat → ClassId} {zt : Nat → Nat} {A : Nat → Prop} {nL : Nat} {rho0 : List Nat} {cc : ByteArray} {pc : Nat} {L : mm_L} {h : mm_H}
theorem mr_vret (hx : p.tables.exec = Jvm.exec) (hb : c.code = cc) (hr : meth.sig.returnType = none) (hlk : meth.locks = false) (hd : decode cc pc = .ok (.return_, 1)) (hq : Post aV h) : mm_W p l e R s m args below meth c (mm_End R s below D cT zt A rho0 Post) D cT zt A nL rho0 pc L [] h := by
  intro rho H locs cells slots ls hp hst hI T hT X
  obtain ⟨fs, hret, hrun, hended, hW, hframe⟩ := X.leave (v := none) (fun _ => rfl) hlk
  have hmeth' : T.vm.method? m = some meth := X.method'
  have hh : (T.setFrames fs).heap = H := hT
  refine ⟨T.setFrames fs, ?_, aV, h, rho, .returned none, locs, cells, slots, hq, hrun, hended, ⟨rfl, fun w hw => by cases hw⟩, hW, hframe, hp, hI.1, hI.2.1, by rw [hh]; exact hI.2.2.2.1, hI.2.2.2.2.1, by rw [hh]; exact hI.2.2.2.2.2.1, hI.2.2.2.2.2.2.2.1, hI.2.2.2.2.2.2.2.2⟩
  jvm_step X.here [X.here.top, hx, hb, hd, hmeth', hr]
  (try refine ⟨rfl, ?_⟩); (try refine ⟨rfl, ?_⟩)
  first | (intro acts; rw [hret _ acts rfl rfl rfl]) | rw [hret _ _ rfl rfl rfl]
  exact Steps.refl _
theorem mr_iret (hx : p.tables.exec = Jvm.exec) (hb : c.code = cc) {ty : FieldType} {x : Int32} (hr : meth.sig.returnType = some ty) (hn : narrow ty (.int x) = .int x) (hlk : meth.locks = false) (hd : decode cc pc = .ok (.ireturn, 1)) (hq : Post (aX (vI x)) h) : mm_W p l e R s m args below meth c (mm_End R s below D cT zt A rho0 Post) D cT zt A nL rho0 pc L [vI x] h := by
  intro rho H locs cells slots ls hp hst hI T hT X
  obtain ⟨fs, hret, hrun, hended, hW, hframe⟩ := X.leave (v := some (.int x)) (fun z => by rw [hr] at z; cases z) hlk
  have hmeth' : T.vm.method? m = some meth := X.method'
  have hh : (T.setFrames fs).heap = H := hT
  refine ⟨T.setFrames fs, ?_, aX (vI x), h, rho, .returned (some (.int x)), locs, cells, slots, hq, hrun, hended, ⟨rfl, fun w hw => by cases hw; trivial⟩, hW, hframe, hp, hI.1, hI.2.1, by rw [hh]; exact hI.2.2.2.1, hI.2.2.2.2.1, by rw [hh]; exact hI.2.2.2.2.2.1, hI.2.2.2.2.2.2.2.1, hI.2.2.2.2.2.2.2.2⟩
  show Steps p.tables e below (T.setTop (F0 m pc ls [.int x])) _
  jvm_step X.here [X.here.top, hx, hb, hd, hmeth', hr, hn]
  (try refine ⟨rfl, ?_⟩); (try refine ⟨rfl, ?_⟩)
  first | (intro acts; rw [hret _ acts rfl rfl rfl]) | rw [hret _ _ rfl rfl rfl]
  exact Steps.refl _
theorem mr_aret (hx : p.tables.exec = Jvm.exec) (hb : c.code = cc) {rt : FieldType} {q : Option Nat} (hr : meth.sig.returnType = some rt) (hrt : (∃ n, rt = .object n) ∨ ∃ t, rt = .array t) (hlk : meth.locks = false) (hd : decode cc pc = .ok (.areturn, 1)) (hq : Post (aX (vQ q)) h) : mm_W p l e R s m args below meth c (mm_End R s below D cT zt A rho0 Post) D cT zt A nL rho0 pc L [vQ q] h := by
  intro rho H locs cells slots ls hp hst hI T hT X
  obtain ⟨fs, hret, hrun, hended, hW, hframe⟩ := X.leave (v := some (mm_v rho zt (vQ q))) (fun z => by rw [hr] at z; cases z) hlk
  have hmeth' : T.vm.method? m = some meth := X.method'
  have hh : (T.setFrames fs).heap = H := hT
  refine ⟨T.setFrames fs, ?_, aX (vQ q), h, rho, .returned (some (mm_v rho zt (vQ q))), locs, cells, slots, hq, hrun, hended, ⟨rfl, fun w hw => by cases hw; exact mm_okh hst⟩, hW, hframe, hp, hI.1, hI.2.1, by rw [hh]; exact hI.2.2.2.1, hI.2.2.2.2.1, by rw [hh]; exact hI.2.2.2.2.2.1, hI.2.2.2.2.2.2.2.1, hI.2.2.2.2.2.2.2.2⟩
  have hvv : mm_v rho zt (vQ q) = .null ∨ ∃ a, mm_v rho zt (vQ q) = .ref a := by
    cases q with
    | none => exact Or.inl rfl
    | some a => exact Or.inr ⟨_, rfl⟩
  show Steps p.tables e below (T.setTop (F0 m pc ls [mm_v rho zt (vQ q)])) _
  generalize mm_v rho zt (vQ q) = v at hret hvv ⊢
  rcases hrt with ⟨n, rfl⟩ | ⟨t, rfl⟩ <;> rcases hvv with rfl | ⟨a, rfl⟩ <;>
    (jvm_step X.here [X.here.top, hx, hb, hd, hmeth', hr]
     (try refine ⟨rfl, ?_⟩); (try refine ⟨rfl, ?_⟩)
     first | (intro acts; rw [hret _ acts rfl rfl rfl]) | rw [hret _ _ rfl rfl rfl]
     exact Steps.refl _)
end ME
