/-! AN EXCEPTION IS MADE AND THROWN -/
section MT
variable {p : Program} {l : Launch} {e : Env} {R : Room} {s : State} {m : MethodId} {args : Array Value} {below : List Frame} {meth : Method} {c : Code}
/-- the same walk, told from here on: nothing is written yet, nothing made -/
theorem mm_reroot {T : State} {locs : List Loc} {cells slots : Nat} (X : Stand p l e R s m args below meth c T locs cells slots) (hc : cells ≤ R.cells) (hs : slots ≤ R.slots) :
    Stand p l e { frames := R.frames, cells := R.cells - cells, slots := R.slots - slots, locals := R.locals } (T.setFrames (.invoking m args :: below)) m args below meth c T [] 0 0 := by
  obtain ⟨g₀, hfr⟩ := X.frames_eq
  have hcur : T.cur < T.threads.size := State.cur_lt_of_frames hfr
  have hfs : (T.setFrames (.invoking m args :: below)).frames = .invoking m args :: below := State.frames_setFrames _ hcur
  have hvm : (T.setFrames (.invoking m args :: below)).vm = T.vm := rfl
  have hm : (T.setFrames (.invoking m args :: below)).vm.method? m = some meth := X.method'
  have hl : (T.setFrames (.invoking m args :: below)).localsInUse = s.localsInUse := by
    rw [State.localsInUse_invoking hfs hm X.code, State.localsInUse_invoking X.frames X.method X.code]
  refine ⟨X.admits, X.cas, X.clock, hfs, ?_, ?_, hm, X.code, X.here, X.tail, State.WarmedH.refl _, ?_, ?_, ?_⟩
  · have hr := X.room
    simp only [State.hasRoom, Bool.and_eq_true, decide_eq_true_eq] at hr ⊢
    obtain ⟨⟨⟨⟨r1, r2⟩, r3⟩, r4⟩, r5⟩ := hr
    have hfl : (T.setFrames (.invoking m args :: below)).frames.length = s.frames.length := by rw [hfs, X.frames]
    have hlim : e.platform.stackLimits (T.setFrames (.invoking m args :: below)).me = e.platform.stackLimits s.me := by rw [State.stackLimits_setFrames, X.limits]
    have hby : (T.setFrames (.invoking m args :: below)).me.stackBytes = s.me.stackBytes := by rw [State.stackBytes_setFrames, X.bytes]
    have h1 := X.heapSize
    have h2 := X.used
    refine ⟨⟨⟨⟨by rw [hl]; exact r1, ?_⟩, ?_⟩, ?_⟩, X.book⟩
    · rw [hl, hfl, hlim, hby]; exact r2
    · show T.heap.size + (R.cells - cells) ≤ _
      omega
    · show T.slotsUsed + (R.slots - slots) ≤ _
      omega
  · have h := X.hears
    have ha := X.warmed.alike
    unfold State.hears at h ⊢
    split
    · simp only at h
      rw [State.code?_eq] at h ⊢
      rw [hvm, ha.method?]
      exact h
    · rfl
    · rfl
    · rename_i h1 h2 h3
      split at h
      · exact absurd rfl (h1 _ _)
      · exact absurd rfl (h2 _ _)
      · exact absurd rfl (h3 _ _)
      · rw [hvm, ha.method?]; exact h
  · rw [State.stackLimits_setFrames]
  · rw [State.stackBytes_setFrames]
  · obtain ⟨th, hth, -⟩ := State.frames_cons hfs
    have hcur' : (T.setFrames (.invoking m args :: below)).cur < (T.setFrames (.invoking m args :: below)).threads.size := State.cur_lt_of_frames hfs
    have h := (State.sameButNew.refl (T.setFrames (.invoking m args :: below)) hth).setFrames T.frames hcur'
    have he : (T.setFrames (.invoking m args :: below)).setFrames T.frames = T := by
      obtain ⟨th2, hth2, -⟩ := State.frames_cons hfr
      rw [State.setFrames_setFrames, State.setFrames_self hth2]
    rw [he] at h
    exact h
end MT
theorem mm_isRef {args : Array Value} {s : State} {C n d : String} {A : Nat → Prop} (h : va_Zq C n d A s s.heap) : (Jvm.Cond.isRef (.static C n d)).before args s = true := by
  rcases h with ⟨cf, kf, fi, f, a, cell, h1, h2, h3, h4, h5, h6, h7, h8⟩ | ⟨t, cf, kf, fi, f, a, cell, h1, h2, h3, h4, h5, h6, h7, h8⟩ <;>
    simp [Cond.before, Cond.holds, Cond.value, Term.eval, State.fieldNamed?, h1, h2, h4, h5, h6, h7]
def mm_up : List String := ["java/lang/RuntimeException", "java/lang/Exception"]
/-- the words of a throw: those that go with the tables; four are of the heap -/
def mm_tw (w : Jvm.Cond) : Bool := (decide (w ∈ lw_tbl) && mm_gd w) || decide (w = .isRef (.static "java/lang/Throwable" "UNASSIGNED_STACK" "[Ljava/lang/StackTraceElement;")) || decide (w = .isRef (.static "java/lang/Throwable" "SUPPRESSED_SENTINEL" "Ljava/util/List;")) || decide (w = .laysStatic "java/lang/Throwable" "UNASSIGNED_STACK" "[Ljava/lang/StackTraceElement;") || decide (w = .laysStatic "java/lang/Throwable" "SUPPRESSED_SENTINEL" "Ljava/util/List;")
theorem mm_tw0 : (Bundle.ownAtoms "LispForge" 85 (mm_ex 0) mm_up).all mm_tw = true := by decide +kernel
theorem mm_tw1 : (Bundle.ownAtoms "LispForge$Compiler" 71 (mm_ex 1) mm_up).all mm_tw = true := by decide +kernel
theorem mm_tw2 : (Bundle.ownAtoms "LispForge" 109 (mm_ex 2) mm_up).all mm_tw = true := by decide +kernel
theorem mm_tw_before {Z : Nat → List Int32} {s : State} {D : va_G} {cT : Nat → ClassId} {zt : Nat → Nat} {A : Nat → Prop} {args : Array Value} {w : Jvm.Cond} (hT : mm_T Z s D cT zt A) (h : mm_tw w = true) : w.before args s = true := by
  simp only [mm_tw, Bool.or_eq_true, Bool.and_eq_true, decide_eq_true_eq] at h
  rcases h with (((⟨h1, h2⟩ | h1) | h1) | h1) | h1
  · exact mm_gd_args h2 (hT.1 w h1 h2)
  · subst h1; exact mm_isRef hT.2.2.2.2.2.1.1
  · subst h1; exact mm_isRef hT.2.2.2.2.2.2.1
  · subst h1; exact hT.2.2.2.2.2.1.2 args
  · subst h1; exact hT.2.2.2.2.2.2.2 args
theorem mm_same_cells {s t : State} {k n : Nat} (h : s.sameButNew t [] k n) {q : Nat} (hq : q < s.heap.size) : t.heap[q]? = s.heap[q]? := by
  obtain ⟨-, -, -, -, -, h6⟩ := h
  have h1 : s.heap[q]? = some s.heap[q] := Array.getElem?_eq_getElem hq
  obtain ⟨c', g1, g2, g3, g4⟩ := h6 q _ h1
  have g5 : c'.slots = (s.heap[q]).slots := Array.ext_getElem? fun i => g4 i (by simp)
  rw [g1, h1, g2, g5]
