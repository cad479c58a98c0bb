theorem mm_okc {n : Nat} {v : mm_V} {r : List mm_V} (h : mm_ok n v) (hr : ∀ w ∈ r, mm_ok n w) : ∀ w ∈ v :: r, mm_ok n w := fun w hw => by
  rcases List.mem_cons.mp hw with rfl | hw
  · exact h
  · exact hr w hw
theorem mm_okt {n : Nat} {v : mm_V} {r : List mm_V} (h : ∀ w ∈ v :: r, mm_ok n w) : ∀ w ∈ r, mm_ok n w := fun w hw => h w (List.mem_cons_of_mem _ hw)
theorem mm_okh {n : Nat} {v : mm_V} {r : List mm_V} (h : ∀ w ∈ v :: r, mm_ok n w) : mm_ok n v := h v List.mem_cons_self
/-- what holds between the small machine and the real one, the operand stack left out -/
def mm_I (R : Room) (s : State) (D : va_G) (cT : Nat → ClassId) (zt : Nat → Nat) (A : Nat → Prop) (nL : Nat) (rho : List Nat) (L : mm_L) (h : mm_H) (H : Heap) (locs : List Loc) (cells slots : Nat) (ls : Array Slot) : Prop :=
  rho.length = h.1.length ∧ (∀ o ∈ h.1, mm_okO h.1.length o) ∧ (∀ v, some v ∈ L → mm_ok h.1.length v) ∧ va_P D vwCl (mm_w rho zt cT h.1) H ∧ va_D A (mm_w rho zt cT h.1) ∧ va_S A s.heap H locs ∧ mm_ls ls nL rho zt L ∧ cells + h.2.1 ≤ R.cells ∧ slots + h.2.2 ≤ R.slots
/-- from the place pc, with these locals, this stack, this heap, the machine comes to Q -/
def mm_W (p : Program) (l : Launch) (e : Env) (R : Room) (s : State) (m : MethodId) (args : Array Value) (below : List Frame) (meth : Method) (c : Code) (Q : State → Prop) (D : va_G) (cT : Nat → ClassId) (zt : Nat → Nat) (A : Nat → Prop) (nL : Nat) (rho0 : List Nat) (pc : Nat) (L : mm_L) (st : List mm_V) (h : mm_H) : Prop :=
  ∀ (rho : List Nat) (H : Heap) (locs : List Loc) (cells slots : Nat) (ls : Array Slot), rho0 <+: rho → (∀ v ∈ st, mm_ok h.1.length v) → mm_I R s D cT zt A nL rho L h H locs cells slots ls → W p l e R s m args below meth c H locs cells slots Q (F0 m pc ls (st.map (mm_v rho zt)))
section MR
variable {p : Program} {l : Launch} {e : Env} {R : Room} {s : State} {m : MethodId} {args : Array Value} {below : List Frame} {meth : Method} {c : Code} {Q : State → Prop} {D : va_G} {cT : Nat → ClassId} {zt : Nat → Nat} {A : Nat → Prop} {nL : Nat} {rho0 : List Nat} {cc : ByteArray} {pc : Nat} {L : mm_L} {r : List mm_V} {h : mm_H}
theorem mr_iadd (hx : p.tables.exec = Jvm.exec) (hb : c.code = cc) {x y : Int32} (hd : decode cc pc = .ok (.iadd, 1)) (k : mm_W p l e R s m args below meth c Q D cT zt A nL rho0 (pc + 1) L (vI (x + y) :: r) h) : mm_W p l e R s m args below meth c Q D cT zt A nL rho0 (pc) L (vI y :: vI x :: r) h :=
  fun rho H locs cells slots ls hp hst hI => lv_iadd hx hb hd (k rho H locs cells slots ls hp (mm_okc trivial (mm_okt (mm_okt hst))) hI)
theorem mr_isub (hx : p.tables.exec = Jvm.exec) (hb : c.code = cc) {x y : Int32} (hd : decode cc pc = .ok (.isub, 1)) (k : mm_W p l e R s m args below meth c Q D cT zt A nL rho0 (pc + 1) L (vI (x - y) :: r) h) : mm_W p l e R s m args below meth c Q D cT zt A nL rho0 (pc) L (vI y :: vI x :: r) h :=
  fun rho H locs cells slots ls hp hst hI => lv_isub hx hb hd (k rho H locs cells slots ls hp (mm_okc trivial (mm_okt (mm_okt hst))) hI)
theorem mr_imul (hx : p.tables.exec = Jvm.exec) (hb : c.code = cc) {x y : Int32} (hd : decode cc pc = .ok (.imul, 1)) (k : mm_W p l e R s m args below meth c Q D cT zt A nL rho0 (pc + 1) L (vI (x * y) :: r) h) : mm_W p l e R s m args below meth c Q D cT zt A nL rho0 (pc) L (vI y :: vI x :: r) h :=
  fun rho H locs cells slots ls hp hst hI => lv_imul hx hb hd (k rho H locs cells slots ls hp (mm_okc trivial (mm_okt (mm_okt hst))) hI)
theorem mr_iand (hx : p.tables.exec = Jvm.exec) (hb : c.code = cc) {x y : Int32} (hd : decode cc pc = .ok (.iand, 1)) (k : mm_W p l e R s m args below meth c Q D cT zt A nL rho0 (pc + 1) L (vI (x &&& y) :: r) h) : mm_W p l e R s m args below meth c Q D cT zt A nL rho0 (pc) L (vI y :: vI x :: r) h :=
  fun rho H locs cells slots ls hp hst hI => lv_iand hx hb hd (k rho H locs cells slots ls hp (mm_okc trivial (mm_okt (mm_okt hst))) hI)
theorem mr_ior (hx : p.tables.exec = Jvm.exec) (hb : c.code = cc) {x y : Int32} (hd : decode cc pc = .ok (.ior, 1)) (k : mm_W p l e R s m args below meth c Q D cT zt A nL rho0 (pc + 1) L (vI (x ||| y) :: r) h) : mm_W p l e R s m args below meth c Q D cT zt A nL rho0 (pc) L (vI y :: vI x :: r) h :=
  fun rho H locs cells slots ls hp hst hI => lv_ior hx hb hd (k rho H locs cells slots ls hp (mm_okc trivial (mm_okt (mm_okt hst))) hI)
theorem mr_ixor (hx : p.tables.exec = Jvm.exec) (hb : c.code = cc) {x y : Int32} (hd : decode cc pc = .ok (.ixor, 1)) (k : mm_W p l e R s m args below meth c Q D cT zt A nL rho0 (pc + 1) L (vI (x ^^^ y) :: r) h) : mm_W p l e R s m args below meth c Q D cT zt A nL rho0 (pc) L (vI y :: vI x :: r) h :=
  fun rho H locs cells slots ls hp hst hI => lv_ixor hx hb hd (k rho H locs cells slots ls hp (mm_okc trivial (mm_okt (mm_okt hst))) hI)
theorem mr_ishl (hx : p.tables.exec = Jvm.exec) (hb : c.code = cc) {x y : Int32} (hd : decode cc pc = .ok (.ishl, 1)) (k : mm_W p l e R s m args below meth c Q D cT zt A nL rho0 (pc + 1) L (vI (x <<< (y &&& 31)) :: r) h) : mm_W p l e R s m args below meth c Q D cT zt A nL rho0 (pc) L (vI y :: vI x :: r) h :=
  fun rho H locs cells slots ls hp hst hI => lv_ishl hx hb hd (k rho H locs cells slots ls hp (mm_okc trivial (mm_okt (mm_okt hst))) hI)
theorem mr_ishr (hx : p.tables.exec = Jvm.exec) (hb : c.code = cc) {x y : Int32} (hd : decode cc pc = .ok (.ishr, 1)) (k : mm_W p l e R s m args below meth c Q D cT zt A nL rho0 (pc + 1) L (vI (x >>> (y &&& 31)) :: r) h) : mm_W p l e R s m args below meth c Q D cT zt A nL rho0 (pc) L (vI y :: vI x :: r) h :=
  fun rho H locs cells slots ls hp hst hI => lv_ishr hx hb hd (k rho H locs cells slots ls hp (mm_okc trivial (mm_okt (mm_okt hst))) hI)
theorem mr_iushr (hx : p.tables.exec = Jvm.exec) (hb : c.code = cc) {x y : Int32} (hd : decode cc pc = .ok (.iushr, 1)) (k : mm_W p l e R s m args below meth c Q D cT zt A nL rho0 (pc + 1) L (vI ((x.toUInt32 >>> (y.toUInt32 &&& Int32.toUInt32 31)).toInt32) :: r) h) : mm_W p l e R s m args below meth c Q D cT zt A nL rho0 (pc) L (vI y :: vI x :: r) h :=
  fun rho H locs cells slots ls hp hst hI => lv_iushr hx hb hd rfl (k rho H locs cells slots ls hp (mm_okc trivial (mm_okt (mm_okt hst))) hI)
theorem mr_ineg (hx : p.tables.exec = Jvm.exec) (hb : c.code = cc) {x : Int32} (hd : decode cc pc = .ok (.ineg, 1)) (k : mm_W p l e R s m args below meth c Q D cT zt A nL rho0 (pc + 1) L (vI (-x) :: r) h) : mm_W p l e R s m args below meth c Q D cT zt A nL rho0 (pc) L (vI x :: r) h :=
  fun rho H locs cells slots ls hp hst hI => lv_ineg hx hb hd (k rho H locs cells slots ls hp (mm_okc trivial (mm_okt hst)) hI)
theorem mr_i2s (hx : p.tables.exec = Jvm.exec) (hb : c.code = cc) {x : Int32} (hd : decode cc pc = .ok (.i2s, 1)) (k : mm_W p l e R s m args below meth c Q D cT zt A nL rho0 (pc + 1) L (vI (x.toInt16.toInt32) :: r) h) : mm_W p l e R s m args below meth c Q D cT zt A nL rho0 (pc) L (vI x :: r) h :=
  fun rho H locs cells slots ls hp hst hI => lv_i2s hx hb hd rfl (k rho H locs cells slots ls hp (mm_okc trivial (mm_okt hst)) hI)
theorem mr_i2b (hx : p.tables.exec = Jvm.exec) (hb : c.code = cc) {x : Int32} (hd : decode cc pc = .ok (.i2b, 1)) (k : mm_W p l e R s m args below meth c Q D cT zt A nL rho0 (pc + 1) L (vI (x.toInt8.toInt32) :: r) h) : mm_W p l e R s m args below meth c Q D cT zt A nL rho0 (pc) L (vI x :: r) h :=
  fun rho H locs cells slots ls hp hst hI => lv_i2b hx hb hd rfl (k rho H locs cells slots ls hp (mm_okc trivial (mm_okt hst)) hI)
theorem mr_i2c (hx : p.tables.exec = Jvm.exec) (hb : c.code = cc) {x : Int32} (hd : decode cc pc = .ok (.i2c, 1)) (k : mm_W p l e R s m args below meth c Q D cT zt A nL rho0 (pc + 1) L (vI ((x.toUInt32 % 65536).toInt32) :: r) h) : mm_W p l e R s m args below meth c Q D cT zt A nL rho0 (pc) L (vI x :: r) h :=
  fun rho H locs cells slots ls hp hst hI => lv_i2c hx hb hd rfl (k rho H locs cells slots ls hp (mm_okc trivial (mm_okt hst)) hI)
theorem mr_i2l (hx : p.tables.exec = Jvm.exec) (hb : c.code = cc) {x : Int32} (hd : decode cc pc = .ok (.i2l, 1)) (k : mm_W p l e R s m args below meth c Q D cT zt A nL rho0 (pc + 1) L (vJ (x.toInt64) :: r) h) : mm_W p l e R s m args below meth c Q D cT zt A nL rho0 (pc) L (vI x :: r) h :=
  fun rho H locs cells slots ls hp hst hI => lv_i2l hx hb hd rfl (k rho H locs cells slots ls hp (mm_okc trivial (mm_okt hst)) hI)
theorem mr_l2i (hx : p.tables.exec = Jvm.exec) (hb : c.code = cc) {x : Int64} (hd : decode cc pc = .ok (.l2i, 1)) (k : mm_W p l e R s m args below meth c Q D cT zt A nL rho0 (pc + 1) L (vI (x.toInt32) :: r) h) : mm_W p l e R s m args below meth c Q D cT zt A nL rho0 (pc) L (vJ x :: r) h :=
  fun rho H locs cells slots ls hp hst hI => lv_l2i hx hb hd rfl (k rho H locs cells slots ls hp (mm_okc trivial (mm_okt hst)) hI)
theorem mr_lushr (hx : p.tables.exec = Jvm.exec) (hb : c.code = cc) {x : Int64} {y : Int32} (hd : decode cc pc = .ok (.lushr, 1)) (k : mm_W p l e R s m args below meth c Q D cT zt A nL rho0 (pc + 1) L (vJ ((x.toUInt64 >>> (y.toInt64.toUInt64 &&& Int64.toUInt64 63)).toInt64) :: r) h) : mm_W p l e R s m args below meth c Q D cT zt A nL rho0 (pc) L (vI y :: vJ x :: r) h :=
  fun rho H locs cells slots ls hp hst hI => lv_lushr hx hb hd rfl (k rho H locs cells slots ls hp (mm_okc trivial (mm_okt (mm_okt hst))) hI)
theorem mr_iconst (hx : p.tables.exec = Jvm.exec) (hb : c.code = cc) {n : Int} {v : Int32} (hd : decode cc pc = .ok (.iconst n, 1)) (hv : Int32.ofInt n = v) (k : mm_W p l e R s m args below meth c Q D cT zt A nL rho0 (pc + 1) L (vI v :: r) h) : mm_W p l e R s m args below meth c Q D cT zt A nL rho0 (pc) L (r) h :=
  fun rho H locs cells slots ls hp hst hI => lv_iconst hx hb hd hv (k rho H locs cells slots ls hp (mm_okc trivial hst) hI)
theorem mr_bipush (hx : p.tables.exec = Jvm.exec) (hb : c.code = cc) {n : Int} {v : Int32} (hd : decode cc pc = .ok (.bipush n, 2)) (hv : (Int8.ofInt n).toInt32 = v) (k : mm_W p l e R s m args below meth c Q D cT zt A nL rho0 (pc + 2) L (vI v :: r) h) : mm_W p l e R s m args below meth c Q D cT zt A nL rho0 (pc) L (r) h :=
  fun rho H locs cells slots ls hp hst hI => lv_bipush hx hb hd hv (k rho H locs cells slots ls hp (mm_okc trivial hst) hI)
theorem mr_sipush (hx : p.tables.exec = Jvm.exec) (hb : c.code = cc) {n : Int} {v : Int32} (hd : decode cc pc = .ok (.sipush n, 3)) (hv : (Int16.ofInt n).toInt32 = v) (k : mm_W p l e R s m args below meth c Q D cT zt A nL rho0 (pc + 3) L (vI v :: r) h) : mm_W p l e R s m args below meth c Q D cT zt A nL rho0 (pc) L (r) h :=
  fun rho H locs cells slots ls hp hst hI => lv_sipush hx hb hd hv (k rho H locs cells slots ls hp (mm_okc trivial hst) hI)
theorem mr_ldc (hx : p.tables.exec = Jvm.exec) (hb : c.code = cc) {own : String} {index : Nat} {v : Int32} (hown : s.vm.findClass own = some m.cls) (hc : (Jvm.Cond.constant own index v).before args s = true) (hd : decode cc pc = .ok (.ldc index, 2)) (k : mm_W p l e R s m args below meth c Q D cT zt A nL rho0 (pc + 2) L (vI v :: r) h) : mm_W p l e R s m args below meth c Q D cT zt A nL rho0 (pc) L (r) h :=
  fun rho H locs cells slots ls hp hst hI => lv_ldc hx hb hown hc hd (k rho H locs cells slots ls hp (mm_okc trivial hst) hI)
theorem mr_ldcw (hx : p.tables.exec = Jvm.exec) (hb : c.code = cc) {own : String} {index : Nat} {v : Int32} (hown : s.vm.findClass own = some m.cls) (hc : (Jvm.Cond.constant own index v).before args s = true) (hd : decode cc pc = .ok (.ldc_w index, 3)) (k : mm_W p l e R s m args below meth c Q D cT zt A nL rho0 (pc + 3) L (vI v :: r) h) : mm_W p l e R s m args below meth c Q D cT zt A nL rho0 (pc) L (r) h :=
  fun rho H locs cells slots ls hp hst hI => lv_ldcw hx hb hown hc hd (k rho H locs cells slots ls hp (mm_okc trivial hst) hI)
theorem mr_lconst (hx : p.tables.exec = Jvm.exec) (hb : c.code = cc) {n : Fin 2} (hd : decode cc pc = .ok (.lconst n, 1)) (k : mm_W p l e R s m args below meth c Q D cT zt A nL rho0 (pc + 1) L (vJ (Int64.ofNat n.val) :: r) h) : mm_W p l e R s m args below meth c Q D cT zt A nL rho0 (pc) L (r) h :=
  fun rho H locs cells slots ls hp hst hI => lv_lconst hx hb hd rfl (k rho H locs cells slots ls hp (mm_okc trivial hst) hI)
theorem mr_null (hx : p.tables.exec = Jvm.exec) (hb : c.code = cc) (hd : decode cc pc = .ok (.aconst_null, 1)) (k : mm_W p l e R s m args below meth c Q D cT zt A nL rho0 (pc + 1) L (vN :: r) h) : mm_W p l e R s m args below meth c Q D cT zt A nL rho0 (pc) L (r) h :=
  fun rho H locs cells slots ls hp hst hI => lv_null hx hb hd (k rho H locs cells slots ls hp (mm_okc trivial hst) hI)
theorem mr_iload (hx : p.tables.exec = Jvm.exec) (hb : c.code = cc) {i : Nat} {x : Int32} (hL : L[i]? = some (some (vI x))) (hd : decode cc pc = .ok (.iload i, 2)) (k : mm_W p l e R s m args below meth c Q D cT zt A nL rho0 (pc + 2) L (vI x :: r) h) : mm_W p l e R s m args below meth c Q D cT zt A nL rho0 (pc) L (r) h :=
  fun rho H locs cells slots ls hp hst hI => lv_iload hx hb hd (hI.2.2.2.2.2.2.1.2.2.2 _ _ hL) (k rho H locs cells slots ls hp (mm_okc trivial hst) hI)
theorem mr_iload_n (hx : p.tables.exec = Jvm.exec) (hb : c.code = cc) {n : Fin 4} {x : Int32} (hL : L[n.val]? = some (some (vI x))) (hd : decode cc pc = .ok (.iload_n n, 1)) (k : mm_W p l e R s m args below meth c Q D cT zt A nL rho0 (pc + 1) L (vI x :: r) h) : mm_W p l e R s m args below meth c Q D cT zt A nL rho0 (pc) L (r) h :=
  fun rho H locs cells slots ls hp hst hI => lv_iload_n hx hb hd rfl (hI.2.2.2.2.2.2.1.2.2.2 _ _ hL) (k rho H locs cells slots ls hp (mm_okc trivial hst) hI)
theorem mr_lload (hx : p.tables.exec = Jvm.exec) (hb : c.code = cc) {i : Nat} {x : Int64} (hL : L[i]? = some (some (vJ x))) (hd : decode cc pc = .ok (.lload i, 2)) (k : mm_W p l e R s m args below meth c Q D cT zt A nL rho0 (pc + 2) L (vJ x :: r) h) : mm_W p l e R s m args below meth c Q D cT zt A nL rho0 (pc) L (r) h :=
  fun rho H locs cells slots ls hp hst hI => lv_lload hx hb hd (hI.2.2.2.2.2.2.1.2.2.2 _ _ hL) (k rho H locs cells slots ls hp (mm_okc trivial hst) hI)
theorem mr_lload_n (hx : p.tables.exec = Jvm.exec) (hb : c.code = cc) {n : Fin 4} {x : Int64} (hL : L[n.val]? = some (some (vJ x))) (hd : decode cc pc = .ok (.lload_n n, 1)) (k : mm_W p l e R s m args below meth c Q D cT zt A nL rho0 (pc + 1) L (vJ x :: r) h) : mm_W p l e R s m args below meth c Q D cT zt A nL rho0 (pc) L (r) h :=
  fun rho H locs cells slots ls hp hst hI => lv_lload_n hx hb hd rfl (hI.2.2.2.2.2.2.1.2.2.2 _ _ hL) (k rho H locs cells slots ls hp (mm_okc trivial hst) hI)
theorem mr_aload (hx : p.tables.exec = Jvm.exec) (hb : c.code = cc) {i : Nat} {q : Option Nat} (hL : L[i]? = some (some (vQ q))) (hd : decode cc pc = .ok (.aload i, 2)) (k : mm_W p l e R s m args below meth c Q D cT zt A nL rho0 (pc + 2) L (vQ q :: r) h) : mm_W p l e R s m args below meth c Q D cT zt A nL rho0 (pc) L (r) h := by
  intro rho H locs cells slots ls hp hst hI
  have h1 := hI.2.2.2.2.2.2.1.2.2.2 _ _ hL
  have h2 := k rho H locs cells slots ls hp (mm_okc (hI.2.2.1 _ (List.mem_of_getElem? hL)) hst) hI
  cases q with
  | none => exact lv_aloadN hx hb hd h1 h2
  | some a => exact lv_aload hx hb hd h1 h2
theorem mr_aload_n (hx : p.tables.exec = Jvm.exec) (hb : c.code = cc) {n : Fin 4} {q : Option Nat} (hL : L[n.val]? = some (some (vQ q))) (hd : decode cc pc = .ok (.aload_n n, 1)) (k : mm_W p l e R s m args below meth c Q D cT zt A nL rho0 (pc + 1) L (vQ q :: r) h) : mm_W p l e R s m args below meth c Q D cT zt A nL rho0 (pc) L (r) h := by
  intro rho H locs cells slots ls hp hst hI
  have h1 := hI.2.2.2.2.2.2.1.2.2.2 _ _ hL
  have h2 := k rho H locs cells slots ls hp (mm_okc (hI.2.2.1 _ (List.mem_of_getElem? hL)) hst) hI
  cases q with
  | none => exact lv_aload_nN hx hb hd rfl h1 h2
  | some a => exact lv_aload_n hx hb hd rfl h1 h2
theorem mr_aloadZ (hx : p.tables.exec = Jvm.exec) (hb : c.code = cc) {i j : Nat} (hL : L[i]? = some (some (vZ j))) (hd : decode cc pc = .ok (.aload i, 2)) (k : mm_W p l e R s m args below meth c Q D cT zt A nL rho0 (pc + 2) L (vZ j :: r) h) : mm_W p l e R s m args below meth c Q D cT zt A nL rho0 (pc) L (r) h :=
  fun rho H locs cells slots ls hp hst hI => lv_aload hx hb hd (hI.2.2.2.2.2.2.1.2.2.2 _ _ hL) (k rho H locs cells slots ls hp (mm_okc trivial hst) hI)
theorem mr_aloadZ_n (hx : p.tables.exec = Jvm.exec) (hb : c.code = cc) {n : Fin 4} {j : Nat} (hL : L[n.val]? = some (some (vZ j))) (hd : decode cc pc = .ok (.aload_n n, 1)) (k : mm_W p l e R s m args below meth c Q D cT zt A nL rho0 (pc + 1) L (vZ j :: r) h) : mm_W p l e R s m args below meth c Q D cT zt A nL rho0 (pc) L (r) h :=
  fun rho H locs cells slots ls hp hst hI => lv_aload_n hx hb hd rfl (hI.2.2.2.2.2.2.1.2.2.2 _ _ hL) (k rho H locs cells slots ls hp (mm_okc trivial hst) hI)
theorem mr_ldc2 (hx : p.tables.exec = Jvm.exec) (hb : c.code = cc) {own : String} {index : Nat} {v : Int64} (hown : s.vm.findClass own = some m.cls) (hc : (Jvm.Cond.constantLong own index v).before args s = true) (hd : decode cc pc = .ok (.ldc2_w index, 3)) (k : mm_W p l e R s m args below meth c Q D cT zt A nL rho0 (pc + 3) L (vJ v :: r) h) : mm_W p l e R s m args below meth c Q D cT zt A nL rho0 (pc) L (r) h :=
  fun rho H locs cells slots ls hp hst hI => lv_ldc2 hx hb hown hc hd (k rho H locs cells slots ls hp (mm_okc trivial hst) hI)
theorem mr_lshl (hx : p.tables.exec = Jvm.exec) (hb : c.code = cc) {x : Int64} {y : Int32} (hd : decode cc pc = .ok (.lshl, 1)) (k : mm_W p l e R s m args below meth c Q D cT zt A nL rho0 (pc + 1) L (vJ (x <<< (y.toInt64 &&& 63)) :: r) h) : mm_W p l e R s m args below meth c Q D cT zt A nL rho0 (pc) L (vI y :: vJ x :: r) h :=
  fun rho H locs cells slots ls hp hst hI => lv_lshl hx hb hd rfl (k rho H locs cells slots ls hp (mm_okc trivial (mm_okt (mm_okt hst))) hI)
theorem mr_land (hx : p.tables.exec = Jvm.exec) (hb : c.code = cc) {x y : Int64} (hd : decode cc pc = .ok (.land, 1)) (k : mm_W p l e R s m args below meth c Q D cT zt A nL rho0 (pc + 1) L (vJ (x &&& y) :: r) h) : mm_W p l e R s m args below meth c Q D cT zt A nL rho0 (pc) L (vJ y :: vJ x :: r) h :=
  fun rho H locs cells slots ls hp hst hI => lv_land hx hb hd (k rho H locs cells slots ls hp (mm_okc trivial (mm_okt (mm_okt hst))) hI)
theorem mr_lor (hx : p.tables.exec = Jvm.exec) (hb : c.code = cc) {x y : Int64} (hd : decode cc pc = .ok (.lor, 1)) (k : mm_W p l e R s m args below meth c Q D cT zt A nL rho0 (pc + 1) L (vJ (x ||| y) :: r) h) : mm_W p l e R s m args below meth c Q D cT zt A nL rho0 (pc) L (vJ y :: vJ x :: r) h :=
  fun rho H locs cells slots ls hp hst hI => lv_lor hx hb hd (k rho H locs cells slots ls hp (mm_okc trivial (mm_okt (mm_okt hst))) hI)
theorem mr_lcmp (hx : p.tables.exec = Jvm.exec) (hb : c.code = cc) {x y : Int64} (hd : decode cc pc = .ok (.lcmp, 1)) (k : mm_W p l e R s m args below meth c Q D cT zt A nL rho0 (pc + 1) L (vI (lg_cmp x y) :: r) h) : mm_W p l e R s m args below meth c Q D cT zt A nL rho0 (pc) L (vJ y :: vJ x :: r) h :=
  fun rho H locs cells slots ls hp hst hI => W.lcmp hx hb hd (k rho H locs cells slots ls hp (mm_okc trivial (mm_okt (mm_okt hst))) hI)
theorem mm_setOk {n k : Nat} {v : mm_V} {L L' : mm_L} (hs : mm_set L k v = some L') (hv : mm_ok n v) (hL : ∀ w, some w ∈ L → mm_ok n w) : (∀ w, some w ∈ L' → mm_ok n w) ∧ k < L.length := by
  unfold mm_set at hs
  split at hs
  · rename_i hk
    split at hs
    · cases hs
    · cases hs
      refine ⟨fun w hw => ?_, hk⟩
      rcases List.mem_or_eq_of_mem_set hw with h1 | h1
      · exact hL w h1
      · cases h1; exact hv
  · cases hs
theorem mm_I.store {rho : List Nat} {H : Heap} {locs : List Loc} {cells slots k : Nat} {ls ls' : Array Slot} {v : mm_V} {L' : mm_L} (hI : mm_I R s D cT zt A nL rho L h H locs cells slots ls) (hv : mm_ok h.1.length v) (hs : mm_set L k v = some L') (h' : lv_has ls' nL ((k, mm_v rho zt v) :: (mm_as rho zt L).filter (fun q => !(q.1 == k) && !(q.1 + 1 == k && q.2.category == 2)))) : mm_I R s D cT zt A nL rho L' h H locs cells slots ls' :=
  ⟨hI.1, hI.2.1, (mm_setOk hs hv hI.2.2.1).1, hI.2.2.2.1, hI.2.2.2.2.1, hI.2.2.2.2.2.1, (hI.2.2.2.2.2.2.1.store hs h').1, hI.2.2.2.2.2.2.2⟩
theorem mm_I.lt {rho : List Nat} {H : Heap} {locs : List Loc} {cells slots k : Nat} {ls : Array Slot} {v : mm_V} {L' : mm_L} (hI : mm_I R s D cT zt A nL rho L h H locs cells slots ls) (hs : mm_set L k v = some L') : k < nL := by
  rw [← hI.2.2.2.2.2.2.1.1]
  unfold mm_set at hs
  split at hs
  · assumption
  · cases hs
theorem mr_istore (hx : p.tables.exec = Jvm.exec) (hb : c.code = cc) {i : Nat} {x : Int32} {L' : mm_L} (hs : mm_set L i (vI x) = some L') (hd : decode cc pc = .ok (.istore i, 2)) (k : mm_W p l e R s m args below meth c Q D cT zt A nL rho0 (pc + 2) L' (r) h) : mm_W p l e R s m args below meth c Q D cT zt A nL rho0 (pc) L (vI x :: r) h :=
  fun rho H locs cells slots ls hp hst hI => lv_istore hx hb hd hI.2.2.2.2.2.2.1.has (hI.lt hs) rfl fun ls' hl' => k rho H locs cells slots ls' hp (mm_okt hst) (hI.store (v := vI x) trivial hs hl')
theorem mr_istore_n (hx : p.tables.exec = Jvm.exec) (hb : c.code = cc) {n : Fin 4} {x : Int32} {L' : mm_L} (hs : mm_set L n.val (vI x) = some L') (hd : decode cc pc = .ok (.istore_n n, 1)) (k : mm_W p l e R s m args below meth c Q D cT zt A nL rho0 (pc + 1) L' (r) h) : mm_W p l e R s m args below meth c Q D cT zt A nL rho0 (pc) L (vI x :: r) h :=
  fun rho H locs cells slots ls hp hst hI => lv_istore_n hx hb hd rfl hI.2.2.2.2.2.2.1.has (hI.lt hs) rfl fun ls' hl' => k rho H locs cells slots ls' hp (mm_okt hst) (hI.store (v := vI x) trivial hs hl')
theorem mr_astore (hx : p.tables.exec = Jvm.exec) (hb : c.code = cc) {i : Nat} {q : Option Nat} {L' : mm_L} (hs : mm_set L i (vQ q) = some L') (hd : decode cc pc = .ok (.astore i, 2)) (k : mm_W p l e R s m args below meth c Q D cT zt A nL rho0 (pc + 2) L' (r) h) : mm_W p l e R s m args below meth c Q D cT zt A nL rho0 (pc) L (vQ q :: r) h := by
  intro rho H locs cells slots ls hp hst hI
  cases q with
  | none => exact lv_astoreN hx hb hd hI.2.2.2.2.2.2.1.has (hI.lt hs) rfl fun ls' hl' => k rho H locs cells slots ls' hp (mm_okt hst) (hI.store (mm_okh hst) hs hl')
  | some a => exact lv_astore hx hb hd hI.2.2.2.2.2.2.1.has (hI.lt hs) rfl fun ls' hl' => k rho H locs cells slots ls' hp (mm_okt hst) (hI.store (mm_okh hst) hs hl')
theorem mr_astore_n (hx : p.tables.exec = Jvm.exec) (hb : c.code = cc) {n : Fin 4} {q : Option Nat} {L' : mm_L} (hs : mm_set L n.val (vQ q) = some L') (hd : decode cc pc = .ok (.astore_n n, 1)) (k : mm_W p l e R s m args below meth c Q D cT zt A nL rho0 (pc + 1) L' (r) h) : mm_W p l e R s m args below meth c Q D cT zt A nL rho0 (pc) L (vQ q :: r) h := by
  intro rho H locs cells slots ls hp hst hI
  cases q with
  | none => exact lv_astore_nN hx hb hd rfl hI.2.2.2.2.2.2.1.has (hI.lt hs) rfl fun ls' hl' => k rho H locs cells slots ls' hp (mm_okt hst) (hI.store (mm_okh hst) hs hl')
  | some a => exact lv_astore_n hx hb hd rfl hI.2.2.2.2.2.2.1.has (hI.lt hs) rfl fun ls' hl' => k rho H locs cells slots ls' hp (mm_okt hst) (hI.store (mm_okh hst) hs hl')
theorem mr_iinc (hx : p.tables.exec = Jvm.exec) (hb : c.code = cc) {i : Nat} {n : Int} {x : Int32} {L' : mm_L} (hL : L[i]? = some (some (vI x))) (hs : mm_set L i (vI (x + Int32.ofInt n)) = some L') (hd : decode cc pc = .ok (.iinc i n, 3)) (k : mm_W p l e R s m args below meth c Q D cT zt A nL rho0 (pc + 3) L' (r) h) : mm_W p l e R s m args below meth c Q D cT zt A nL rho0 (pc) L (r) h := by
  intro rho H locs cells slots ls hp hst hI
  obtain ⟨j, hj⟩ := List.getElem?_of_mem (mm_as_mem (rho := rho) (zt := zt) hL)
  exact lv_iinc hx hb hd hI.2.2.2.2.2.2.1.has hj rfl (hI.lt hs) rfl fun ls' hl' => k rho H locs cells slots ls' hp hst (hI.store (v := vI (x + Int32.ofInt n)) trivial hs hl')
theorem mm_cat1 {rho : List Nat} {v : mm_V} (h : ∀ x, v ≠ vJ x) : (mm_v rho zt v).category = 1 := by
  obtain x | x | (_ | a) | j := v
  · rfl
  · exact absurd rfl (h x)
  · rfl
  · rfl
  · rfl
theorem mr_pop (hx : p.tables.exec = Jvm.exec) (hb : c.code = cc) {v : mm_V} (hv : ∀ x, v ≠ vJ x) (hd : decode cc pc = .ok (.pop, 1)) (k : mm_W p l e R s m args below meth c Q D cT zt A nL rho0 (pc + 1) L (r) h) : mm_W p l e R s m args below meth c Q D cT zt A nL rho0 (pc) L (v :: r) h :=
  fun rho H locs cells slots ls hp hst hI => lv_pop hx hb hd (mm_cat1 hv) (k rho H locs cells slots ls hp (mm_okt hst) hI)
theorem mr_dup (hx : p.tables.exec = Jvm.exec) (hb : c.code = cc) {v : mm_V} (hv : ∀ x, v ≠ vJ x) (hd : decode cc pc = .ok (.dup, 1)) (k : mm_W p l e R s m args below meth c Q D cT zt A nL rho0 (pc + 1) L (v :: v :: r) h) : mm_W p l e R s m args below meth c Q D cT zt A nL rho0 (pc) L (v :: r) h :=
  fun rho H locs cells slots ls hp hst hI => lv_dup hx hb hd (mm_cat1 hv) (k rho H locs cells slots ls hp (mm_okc (mm_okh hst) hst) hI)
theorem mr_goto (hx : p.tables.exec = Jvm.exec) (hb : c.code = cc) {off : Int} {tgt : Nat} (hd : decode cc pc = .ok (.goto off, 3)) (ht : (pc : Int) + off = (tgt : Int)) (k : mm_W p l e R s m args below meth c Q D cT zt A nL rho0 (tgt) L (r) h) : mm_W p l e R s m args below meth c Q D cT zt A nL rho0 (pc) L (r) h :=
  fun rho H locs cells slots ls hp hst hI => lv_goto hx hb hd ht (k rho H locs cells slots ls hp hst hI)
theorem mr_icmp_eq (hx : p.tables.exec = Jvm.exec) (hb : c.code = cc) {x y : Int32} {off : Int} {tgt : Nat} (hd : decode cc pc = .ok (.if_icmp .eq off, 3)) (ht : (pc : Int) + off = (tgt : Int)) (k1 : mm_cmp .eq x y → mm_W p l e R s m args below meth c Q D cT zt A nL rho0 (tgt) L (r) h) (k2 : ¬ mm_cmp .eq x y → mm_W p l e R s m args below meth c Q D cT zt A nL rho0 (pc + 3) L (r) h) : mm_W p l e R s m args below meth c Q D cT zt A nL rho0 (pc) L (vI y :: vI x :: r) h :=
  fun rho H locs cells slots ls hp hst hI => lv_icmp_eq hx hb hd ht (fun q => k1 q rho H locs cells slots ls hp (mm_okt (mm_okt hst)) hI) (fun q => k2 q rho H locs cells slots ls hp (mm_okt (mm_okt hst)) hI)
theorem mr_if_eq (hx : p.tables.exec = Jvm.exec) (hb : c.code = cc) {x : Int32} {off : Int} {tgt : Nat} (hd : decode cc pc = .ok (.ifCond .eq off, 3)) (ht : (pc : Int) + off = (tgt : Int)) (k1 : mm_cmp .eq x 0 → mm_W p l e R s m args below meth c Q D cT zt A nL rho0 (tgt) L (r) h) (k2 : ¬ mm_cmp .eq x 0 → mm_W p l e R s m args below meth c Q D cT zt A nL rho0 (pc + 3) L (r) h) : mm_W p l e R s m args below meth c Q D cT zt A nL rho0 (pc) L (vI x :: r) h :=
  fun rho H locs cells slots ls hp hst hI => lv_if_eq hx hb hd ht (fun q => k1 q rho H locs cells slots ls hp (mm_okt hst) hI) (fun q => k2 q rho H locs cells slots ls hp (mm_okt hst) hI)
theorem mr_icmp_ne (hx : p.tables.exec = Jvm.exec) (hb : c.code = cc) {x y : Int32} {off : Int} {tgt : Nat} (hd : decode cc pc = .ok (.if_icmp .ne off, 3)) (ht : (pc : Int) + off = (tgt : Int)) (k1 : mm_cmp .ne x y → mm_W p l e R s m args below meth c Q D cT zt A nL rho0 (tgt) L (r) h) (k2 : ¬ mm_cmp .ne x y → mm_W p l e R s m args below meth c Q D cT zt A nL rho0 (pc + 3) L (r) h) : mm_W p l e R s m args below meth c Q D cT zt A nL rho0 (pc) L (vI y :: vI x :: r) h :=
  fun rho H locs cells slots ls hp hst hI => lv_icmp_ne hx hb hd ht (fun q => k1 q rho H locs cells slots ls hp (mm_okt (mm_okt hst)) hI) (fun q => k2 (fun z => z q) rho H locs cells slots ls hp (mm_okt (mm_okt hst)) hI)
theorem mr_if_ne (hx : p.tables.exec = Jvm.exec) (hb : c.code = cc) {x : Int32} {off : Int} {tgt : Nat} (hd : decode cc pc = .ok (.ifCond .ne off, 3)) (ht : (pc : Int) + off = (tgt : Int)) (k1 : mm_cmp .ne x 0 → mm_W p l e R s m args below meth c Q D cT zt A nL rho0 (tgt) L (r) h) (k2 : ¬ mm_cmp .ne x 0 → mm_W p l e R s m args below meth c Q D cT zt A nL rho0 (pc + 3) L (r) h) : mm_W p l e R s m args below meth c Q D cT zt A nL rho0 (pc) L (vI x :: r) h :=
  fun rho H locs cells slots ls hp hst hI => lv_if_ne hx hb hd ht (fun q => k1 q rho H locs cells slots ls hp (mm_okt hst) hI) (fun q => k2 (fun z => z q) rho H locs cells slots ls hp (mm_okt hst) hI)
theorem mr_icmp_lt (hx : p.tables.exec = Jvm.exec) (hb : c.code = cc) {x y : Int32} {off : Int} {tgt : Nat} (hd : decode cc pc = .ok (.if_icmp .lt off, 3)) (ht : (pc : Int) + off = (tgt : Int)) (k1 : mm_cmp .lt x y → mm_W p l e R s m args below meth c Q D cT zt A nL rho0 (tgt) L (r) h) (k2 : ¬ mm_cmp .lt x y → mm_W p l e R s m args below meth c Q D cT zt A nL rho0 (pc + 3) L (r) h) : mm_W p l e R s m args below meth c Q D cT zt A nL rho0 (pc) L (vI y :: vI x :: r) h :=
  fun rho H locs cells slots ls hp hst hI => lv_icmp_lt hx hb hd ht (fun q => k1 q rho H locs cells slots ls hp (mm_okt (mm_okt hst)) hI) (fun q => k2 q rho H locs cells slots ls hp (mm_okt (mm_okt hst)) hI)
theorem mr_if_lt (hx : p.tables.exec = Jvm.exec) (hb : c.code = cc) {x : Int32} {off : Int} {tgt : Nat} (hd : decode cc pc = .ok (.ifCond .lt off, 3)) (ht : (pc : Int) + off = (tgt : Int)) (k1 : mm_cmp .lt x 0 → mm_W p l e R s m args below meth c Q D cT zt A nL rho0 (tgt) L (r) h) (k2 : ¬ mm_cmp .lt x 0 → mm_W p l e R s m args below meth c Q D cT zt A nL rho0 (pc + 3) L (r) h) : mm_W p l e R s m args below meth c Q D cT zt A nL rho0 (pc) L (vI x :: r) h :=
  fun rho H locs cells slots ls hp hst hI => lv_if_lt hx hb hd ht (fun q => k1 q rho H locs cells slots ls hp (mm_okt hst) hI) (fun q => k2 q rho H locs cells slots ls hp (mm_okt hst) hI)
theorem mr_icmp_ge (hx : p.tables.exec = Jvm.exec) (hb : c.code = cc) {x y : Int32} {off : Int} {tgt : Nat} (hd : decode cc pc = .ok (.if_icmp .ge off, 3)) (ht : (pc : Int) + off = (tgt : Int)) (k1 : mm_cmp .ge x y → mm_W p l e R s m args below meth c Q D cT zt A nL rho0 (tgt) L (r) h) (k2 : ¬ mm_cmp .ge x y → mm_W p l e R s m args below meth c Q D cT zt A nL rho0 (pc + 3) L (r) h) : mm_W p l e R s m args below meth c Q D cT zt A nL rho0 (pc) L (vI y :: vI x :: r) h :=
  fun rho H locs cells slots ls hp hst hI => lv_icmp_ge hx hb hd ht (fun q => k1 q rho H locs cells slots ls hp (mm_okt (mm_okt hst)) hI) (fun q => k2 q rho H locs cells slots ls hp (mm_okt (mm_okt hst)) hI)
theorem mr_if_ge (hx : p.tables.exec = Jvm.exec) (hb : c.code = cc) {x : Int32} {off : Int} {tgt : Nat} (hd : decode cc pc = .ok (.ifCond .ge off, 3)) (ht : (pc : Int) + off = (tgt : Int)) (k1 : mm_cmp .ge x 0 → mm_W p l e R s m args below meth c Q D cT zt A nL rho0 (tgt) L (r) h) (k2 : ¬ mm_cmp .ge x 0 → mm_W p l e R s m args below meth c Q D cT zt A nL rho0 (pc + 3) L (r) h) : mm_W p l e R s m args below meth c Q D cT zt A nL rho0 (pc) L (vI x :: r) h :=
  fun rho H locs cells slots ls hp hst hI => lv_if_ge hx hb hd ht (fun q => k1 q rho H locs cells slots ls hp (mm_okt hst) hI) (fun q => k2 q rho H locs cells slots ls hp (mm_okt hst) hI)
theorem mr_icmp_gt (hx : p.tables.exec = Jvm.exec) (hb : c.code = cc) {x y : Int32} {off : Int} {tgt : Nat} (hd : decode cc pc = .ok (.if_icmp .gt off, 3)) (ht : (pc : Int) + off = (tgt : Int)) (k1 : mm_cmp .gt x y → mm_W p l e R s m args below meth c Q D cT zt A nL rho0 (tgt) L (r) h) (k2 : ¬ mm_cmp .gt x y → mm_W p l e R s m args below meth c Q D cT zt A nL rho0 (pc + 3) L (r) h) : mm_W p l e R s m args below meth c Q D cT zt A nL rho0 (pc) L (vI y :: vI x :: r) h :=
  fun rho H locs cells slots ls hp hst hI => lv_icmp_gt hx hb hd ht (fun q => k1 q rho H locs cells slots ls hp (mm_okt (mm_okt hst)) hI) (fun q => k2 q rho H locs cells slots ls hp (mm_okt (mm_okt hst)) hI)
theorem mr_if_gt (hx : p.tables.exec = Jvm.exec) (hb : c.code = cc) {x : Int32} {off : Int} {tgt : Nat} (hd : decode cc pc = .ok (.ifCond .gt off, 3)) (ht : (pc : Int) + off = (tgt : Int)) (k1 : mm_cmp .gt x 0 → mm_W p l e R s m args below meth c Q D cT zt A nL rho0 (tgt) L (r) h) (k2 : ¬ mm_cmp .gt x 0 → mm_W p l e R s m args below meth c Q D cT zt A nL rho0 (pc + 3) L (r) h) : mm_W p l e R s m args below meth c Q D cT zt A nL rho0 (pc) L (vI x :: r) h :=
  fun rho H locs cells slots ls hp hst hI => lv_if_gt hx hb hd ht (fun q => k1 q rho H locs cells slots ls hp (mm_okt hst) hI) (fun q => k2 q rho H locs cells slots ls hp (mm_okt hst) hI)
theorem mr_icmp_le (hx : p.tables.exec = Jvm.exec) (hb : c.code = cc) {x y : Int32} {off : Int} {tgt : Nat} (hd : decode cc pc = .ok (.if_icmp .le off, 3)) (ht : (pc : Int) + off = (tgt : Int)) (k1 : mm_cmp .le x y → mm_W p l e R s m args below meth c Q D cT zt A nL rho0 (tgt) L (r) h) (k2 : ¬ mm_cmp .le x y → mm_W p l e R s m args below meth c Q D cT zt A nL rho0 (pc + 3) L (r) h) : mm_W p l e R s m args below meth c Q D cT zt A nL rho0 (pc) L (vI y :: vI x :: r) h :=
  fun rho H locs cells slots ls hp hst hI => lv_icmp_le hx hb hd ht (fun q => k1 q rho H locs cells slots ls hp (mm_okt (mm_okt hst)) hI) (fun q => k2 q rho H locs cells slots ls hp (mm_okt (mm_okt hst)) hI)
theorem mr_if_le (hx : p.tables.exec = Jvm.exec) (hb : c.code = cc) {x : Int32} {off : Int} {tgt : Nat} (hd : decode cc pc = .ok (.ifCond .le off, 3)) (ht : (pc : Int) + off = (tgt : Int)) (k1 : mm_cmp .le x 0 → mm_W p l e R s m args below meth c Q D cT zt A nL rho0 (tgt) L (r) h) (k2 : ¬ mm_cmp .le x 0 → mm_W p l e R s m args below meth c Q D cT zt A nL rho0 (pc + 3) L (r) h) : mm_W p l e R s m args below meth c Q D cT zt A nL rho0 (pc) L (vI x :: r) h :=
  fun rho H locs cells slots ls hp hst hI => lv_if_le hx hb hd ht (fun q => k1 q rho H locs cells slots ls hp (mm_okt hst) hI) (fun q => k2 q rho H locs cells slots ls hp (mm_okt hst) hI)
theorem mr_ifnull (hx : p.tables.exec = Jvm.exec) (hb : c.code = cc) {q : Option Nat} {off : Int} {tgt : Nat} (hd : decode cc pc = .ok (.ifnull off, 3)) (ht : (pc : Int) + off = (tgt : Int)) (k1 : q = none → mm_W p l e R s m args below meth c Q D cT zt A nL rho0 (tgt) L (r) h) (k2 : ¬ q = none → mm_W p l e R s m args below meth c Q D cT zt A nL rho0 (pc + 3) L (r) h) : mm_W p l e R s m args below meth c Q D cT zt A nL rho0 (pc) L (vQ q :: r) h := by
  intro rho H locs cells slots ls hp hst hI
  cases q with
  | none => exact lv_ifnullN hx hb hd ht (k1 rfl rho H locs cells slots ls hp (mm_okt hst) hI)
  | some a => exact lv_ifnull hx hb hd (k2 (by simp) rho H locs cells slots ls hp (mm_okt hst) hI)
theorem mr_ifnonnull (hx : p.tables.exec = Jvm.exec) (hb : c.code = cc) {q : Option Nat} {off : Int} {tgt : Nat} (hd : decode cc pc = .ok (.ifnonnull off, 3)) (ht : (pc : Int) + off = (tgt : Int)) (k1 : ¬ q = none → mm_W p l e R s m args below meth c Q D cT zt A nL rho0 (tgt) L (r) h) (k2 : q = none → mm_W p l e R s m args below meth c Q D cT zt A nL rho0 (pc + 3) L (r) h) : mm_W p l e R s m args below meth c Q D cT zt A nL rho0 (pc) L (vQ q :: r) h := by
  intro rho H locs cells slots ls hp hst hI
  cases q with
  | none => exact lv_ifnonnullN hx hb hd (k2 rfl rho H locs cells slots ls hp (mm_okt hst) hI)
  | some a => exact lv_ifnonnull hx hb hd ht (k1 (by simp) rho H locs cells slots ls hp (mm_okt hst) hI)
theorem mm_vQ (rho : List Nat) (q : Option Nat) : mm_v rho zt (vQ q) = va_rf (mm_q rho q) := by cases q <;> rfl
theorem mm_rho_inj {rho : List Nat} {cs : List mm_O} (hl : rho.length = cs.length) (hD : va_D A (mm_w rho zt cT cs)) {a b : Nat} (ha : a < cs.length) (hb : b < cs.length) (hab : rho.getD a 0 = rho.getD b 0) : a = b := by
  obtain ⟨x, hx⟩ : ∃ x, cs[a]? = some x := ⟨cs[a], List.getElem?_eq_getElem ha⟩
  obtain ⟨y, hy⟩ : ∃ y, cs[b]? = some y := ⟨cs[b], List.getElem?_eq_getElem hb⟩
  exact hD.1 a b _ _ (mm_w_at hl hx) (mm_w_at hl hy) hab
theorem mm_q_inj {rho : List Nat} {cs : List mm_O} (hl : rho.length = cs.length) (hD : va_D A (mm_w rho zt cT cs)) {a b : Option Nat} (ha : mm_ok cs.length (vQ a)) (hb : mm_ok cs.length (vQ b)) : mm_q rho a = mm_q rho b ↔ a = b := by
  refine ⟨fun hq => ?_, fun hq => by rw [hq]⟩
  cases a with
  | none => cases b with
    | none => rfl
    | some y => simp [mm_q] at hq
  | some x => cases b with
    | none => simp [mm_q] at hq
    | some y =>
      simp only [mm_q, Option.map_some, Option.some.injEq] at hq
      rw [mm_rho_inj hl hD ha hb hq]
theorem mr_acmp_eq (hx : p.tables.exec = Jvm.exec) (hb : c.code = cc) {a b : Option Nat} {off : Int} {tgt : Nat} (hd : decode cc pc = .ok (.if_acmp .eq off, 3)) (ht : (pc : Int) + off = (tgt : Int)) (k1 : a = b → mm_W p l e R s m args below meth c Q D cT zt A nL rho0 (tgt) L (r) h) (k2 : ¬ a = b → mm_W p l e R s m args below meth c Q D cT zt A nL rho0 (pc + 3) L (r) h) : mm_W p l e R s m args below meth c Q D cT zt A nL rho0 (pc) L (vQ b :: vQ a :: r) h := by
  intro rho H locs cells slots ls hp hst hI
  have hq := mm_q_inj (zt := zt) (cT := cT) (A := A) hI.1 hI.2.2.2.2.1 (a := a) (b := b) (mm_okh (mm_okt hst)) (mm_okh hst)
  rw [List.map_cons, List.map_cons, mm_vQ, mm_vQ]
  exact lv_acmp_eq hx hb hd ht (fun z => k1 (hq.mp z) rho H locs cells slots ls hp (mm_okt (mm_okt hst)) hI) (fun z => k2 (fun y => z (hq.mpr y)) rho H locs cells slots ls hp (mm_okt (mm_okt hst)) hI)
theorem mr_acmp_ne (hx : p.tables.exec = Jvm.exec) (hb : c.code = cc) {a b : Option Nat} {off : Int} {tgt : Nat} (hd : decode cc pc = .ok (.if_acmp .ne off, 3)) (ht : (pc : Int) + off = (tgt : Int)) (k1 : ¬ a = b → mm_W p l e R s m args below meth c Q D cT zt A nL rho0 (tgt) L (r) h) (k2 : a = b → mm_W p l e R s m args below meth c Q D cT zt A nL rho0 (pc + 3) L (r) h) : mm_W p l e R s m args below meth c Q D cT zt A nL rho0 (pc) L (vQ b :: vQ a :: r) h := by
  intro rho H locs cells slots ls hp hst hI
  have hq := mm_q_inj (zt := zt) (cT := cT) (A := A) hI.1 hI.2.2.2.2.1 (a := a) (b := b) (mm_okh (mm_okt hst)) (mm_okh hst)
  rw [List.map_cons, List.map_cons, mm_vQ, mm_vQ]
  exact lv_acmp_ne hx hb hd ht (fun z => k1 (fun y => z (hq.mpr y)) rho H locs cells slots ls hp (mm_okt (mm_okt hst)) hI) (fun z => k2 (hq.mp z) rho H locs cells slots ls hp (mm_okt (mm_okt hst)) hI)
end MR
