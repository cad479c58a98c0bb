theorem mm_sw_off {F : Nat → Prop} {pc d : Nat} {d0 : Int} {x : Int32} (hd : (pc : Int) + d0 = (d : Int)) : ∀ qs : List (Int × Int), (∀ q ∈ qs, 0 ≤ (pc : Int) + q.2 ∧ -2147483648 ≤ q.1 ∧ q.1 ≤ 2147483647) → mm_sw F d x (qs.map fun q => (q.1, (pc : Int) + q.2)) → ∃ tgt : Nat, (pc : Int) + Op.lookupswitch.offset qs d0 x.toInt = (tgt : Int) ∧ F tgt
  | [], _, h => ⟨d, hd, h⟩
  | (a, f) :: qs, hq, h => by
    obtain ⟨h1, h2, h3⟩ := hq (a, f) List.mem_cons_self
    have ht : (Int32.ofInt a).toInt = a := Int32.toInt_ofInt_of_le (by omega) (by omega)
    by_cases hx : x = Int32.ofInt a
    · have hF := h.1 hx
      refine ⟨((pc : Int) + f).toNat, ?_, hF⟩
      rw [Op.lookupswitch.offset_cons, if_pos (by rw [hx, ht])]
      exact (Int.toNat_of_nonneg h1).symm
    · rw [lv_osw hx ht]
      exact mm_sw_off hd qs (fun q z => hq q (List.mem_cons_of_mem _ z)) (h.2 hx)
theorem mm_sw_mem {F : Nat → Prop} {d : Nat} {x : Int32} : ∀ ps : List (Int × Int), mm_sw F d x ps → (∃ q ∈ ps, x = Int32.ofInt q.1 ∧ F q.2.toNat) ∨ ((∀ q ∈ ps, ¬ x = Int32.ofInt q.1) ∧ F d)
  | [], h => Or.inr ⟨fun _ z => absurd z List.not_mem_nil, h⟩
  | (a, f) :: ps, h => by
    by_cases hx : x = Int32.ofInt a
    · exact Or.inl ⟨(a, f), List.mem_cons_self, hx, h.1 hx⟩
    · rcases mm_sw_mem ps (h.2 hx) with ⟨q, h1, h2⟩ | ⟨h1, h2⟩
      · exact Or.inl ⟨q, List.mem_cons_of_mem _ h1, h2⟩
      · refine Or.inr ⟨fun q z => ?_, h2⟩
        rcases List.mem_cons.mp z with rfl | z
        · exact hx
        · exact h1 q z
section MSW
variable {Z : Nat → List Int32} {p : Program} {l : Launch} {e : Env} {R : Room} {s : State} {m : MethodId} {args : Array Value} {below : List Frame} {meth : Method} {c : Code} {Q : State → Prop} {D : va_G} {cT : Nat → ClassId} {zt : Nat → Nat} {A : Nat → Prop} {nL : Nat} {rho0 : List Nat} {cc : ByteArray} {pc : Nat} {L : mm_L} {r : List mm_V} {h : mm_H}
theorem mr_lookup (hx : p.tables.exec = Jvm.exec) (hb : c.code = cc) {d0 : Int} {qs : Array (Int × Int)} {len d : Nat} {x : Int32} (hd : decode cc pc = .ok (.lookupswitch d0 qs, len)) (hp : (qs.toList.zip (qs.toList.drop 1)).all (fun (a, next) => a.1 < next.1) = true) (h0 : (pc : Int) + d0 = (d : Int)) (hq : ∀ q ∈ qs.toList, 0 ≤ (pc : Int) + q.2 ∧ -2147483648 ≤ q.1 ∧ q.1 ≤ 2147483647) (k : mm_sw (fun t => mm_W p l e R s m args below meth c Q D cT zt A nL rho0 t L r h) d x (qs.toList.map fun q => (q.1, (pc : Int) + q.2))) : mm_W p l e R s m args below meth c Q D cT zt A nL rho0 pc L (vI x :: r) h := by
  intro rho H locs cells slots ls hpf hst hI
  obtain ⟨tgt, g1, g2⟩ := mm_sw_off h0 qs.toList hq k
  exact lv_lookup hx hb hd hp rfl g1 (g2 rho H locs cells slots ls hpf (mm_okt hst) hI)
theorem mr_table (hx : p.tables.exec = Jvm.exec) (hb : c.code = cc) {d0 lo hi : Int} {offs : Array Int} {len d : Nat} {x : Int32} (hd : decode cc pc = .ok (.tableswitch d0 lo hi offs, len)) (h0 : (pc : Int) + d0 = (d : Int)) (hsz : hi - lo + 1 = (offs.size : Int)) (ho : ∀ q ∈ offs.toList, 0 ≤ (pc : Int) + q) (hlo : -2147483648 ≤ lo ∧ hi ≤ 2147483647) (k : mm_sw (fun t => mm_W p l e R s m args below meth c Q D cT zt A nL rho0 t L r h) d x ((List.range offs.size).map fun (j : Nat) => (lo + (j : Int), (pc : Int) + offs.toList.getD j 0))) : mm_W p l e R s m args below meth c Q D cT zt A nL rho0 pc L (vI x :: r) h := by
  intro rho H locs cells slots ls hpf hst hI
  rcases mm_sw_mem _ k with ⟨q, h1, h2, h3⟩ | ⟨h1, h2⟩
  · obtain ⟨j, hj, rfl⟩ := List.mem_map.mp h1
    have hj := List.mem_range.mp hj
    have ht : x.toInt = lo + (j : Int) := by rw [h2]; exact Int32.toInt_ofInt_of_le (by omega) (by omega)
    have hg : offs.toList.getD j 0 = offs[j] := by
      rw [List.getD_eq_getElem?_getD, Array.getElem?_toList, Array.getElem?_eq_getElem hj]; rfl
    have hnn : 0 ≤ (pc : Int) + offs[j] := ho _ (by simp)
    refine lv_tableIn hx hb hd (by omega) (by omega) (off := offs[j]) (by rw [ht, show (lo + (j : Int) - lo).toNat = j by omega]; exact Array.getElem?_eq_getElem hj) (tgt := ((pc : Int) + offs[j]).toNat) (Int.toNat_of_nonneg hnn).symm ?_
    have h4 := h3 rho H locs cells slots ls hpf (mm_okt hst) hI
    rw [hg] at h4
    exact h4
  · refine lv_tableOut hx hb hd ?_ h0 (h2 rho H locs cells slots ls hpf (mm_okt hst) hI)
    by_cases a1 : x.toInt < lo
    · exact Or.inl a1
    · by_cases a2 : hi < x.toInt
      · exact Or.inr a2
      · exfalso
        have hj : (x.toInt - lo).toNat < offs.size := by omega
        refine h1 (lo + ((x.toInt - lo).toNat : Int), (pc : Int) + offs.toList.getD (x.toInt - lo).toNat 0) (List.mem_map.mpr ⟨_, List.mem_range.mpr hj, rfl⟩) ?_
        rw [show lo + ((x.toInt - lo).toNat : Int) = x.toInt by omega, Int32.ofInt_toInt]
theorem mr_max (hx : p.tables.exec = Jvm.exec) (hb : c.code = cc) (hml : c.maxLocals = nL) {own : String} {idx : Nat} (hown : s.vm.findClass own = some m.cls) (hl : (Jvm.Cond.methodLink own idx Lib.Math.max.name).before args s = true) (hst : (Jvm.Cond.static Lib.Math.max.name).before args s = true) (hini : (Jvm.Cond.initialized "java/lang/Math").before args s = true) (hcode : (Jvm.Cond.code Lib.Math.max.name Lib.Math.max.code 2 (some .int)).before args s = true) (hfr : 1 ≤ R.frames) (hlo : 64 ≤ R.locals) (hlen : r.length ≤ 12) {x y : Int32} (hd : decode cc pc = .ok (.invokestatic idx, 3)) (k : mm_W p l e R s m args below meth c Q D cT zt A nL rho0 (pc + 3) L (vI (if x < y then y else x) :: r) h) : mm_W p l e R s m args below meth c Q D cT zt A nL rho0 pc L (vI y :: vI x :: r) h := by
  intro rho H locs cells slots ls hpf hst2 hI
  have hcat := mm_catSum (r.map (mm_v rho zt))
  rw [List.length_map] at hcat
  have q1 := hI.2.2.2.2.2.2.2.1
  have q2 := hI.2.2.2.2.2.2.2.2
  exact va_mmax hx hb (by rw [hml]; exact hI.2.2.2.2.2.2.1.2.1.symm) hown hl hst hini hcode hfr (by omega) (by omega) (by omega) hd (k rho H locs cells slots ls hpf (mm_okc trivial (mm_okt (mm_okt hst2))) hI)
theorem mr_min (hx : p.tables.exec = Jvm.exec) (hb : c.code = cc) (hml : c.maxLocals = nL) {own : String} {idx : Nat} (hown : s.vm.findClass own = some m.cls) (hl : (Jvm.Cond.methodLink own idx Lib.Math.min.name).before args s = true) (hst : (Jvm.Cond.static Lib.Math.min.name).before args s = true) (hini : (Jvm.Cond.initialized "java/lang/Math").before args s = true) (hcode : (Jvm.Cond.code Lib.Math.min.name Lib.Math.min.code 2 (some .int)).before args s = true) (hfr : 1 ≤ R.frames) (hlo : 64 ≤ R.locals) (hlen : r.length ≤ 12) {x y : Int32} (hd : decode cc pc = .ok (.invokestatic idx, 3)) (k : mm_W p l e R s m args below meth c Q D cT zt A nL rho0 (pc + 3) L (vI (if y < x then y else x) :: r) h) : mm_W p l e R s m args below meth c Q D cT zt A nL rho0 pc L (vI y :: vI x :: r) h := by
  intro rho H locs cells slots ls hpf hst2 hI
  have hcat := mm_catSum (r.map (mm_v rho zt))
  rw [List.length_map] at hcat
  have q1 := hI.2.2.2.2.2.2.2.1
  have q2 := hI.2.2.2.2.2.2.2.2
  exact va_mmin hx hb (by rw [hml]; exact hI.2.2.2.2.2.2.1.2.1.symm) hown hl hst hini hcode hfr (by omega) (by omega) (by omega) hd (k rho H locs cells slots ls hpf (mm_okc trivial (mm_okt (mm_okt hst2))) hI)
theorem mr_icmp (hx : p.tables.exec = Jvm.exec) (hb : c.code = cc) {cd : Jvm.ClassFile.Cond} {x y : Int32} {off : Int} {tgt : Nat} (hd : decode cc pc = .ok (.if_icmp cd off, 3)) (ht : (pc : Int) + off = (tgt : Int)) (k1 : mm_cmp cd x y → mm_W p l e R s m args below meth c Q D cT zt A nL rho0 tgt L r h) (k2 : ¬ mm_cmp cd x y → mm_W p l e R s m args below meth c Q D cT zt A nL rho0 (pc + 3) L r h) : mm_W p l e R s m args below meth c Q D cT zt A nL rho0 pc L (vI y :: vI x :: r) h := by
  cases cd
  · exact mr_icmp_eq hx hb hd ht k1 k2
  · exact mr_icmp_ne hx hb hd ht k1 k2
  · exact mr_icmp_lt hx hb hd ht k1 k2
  · exact mr_icmp_ge hx hb hd ht k1 k2
  · exact mr_icmp_gt hx hb hd ht k1 k2
  · exact mr_icmp_le hx hb hd ht k1 k2
theorem mr_if (hx : p.tables.exec = Jvm.exec) (hb : c.code = cc) {cd : Jvm.ClassFile.Cond} {x : Int32} {off : Int} {tgt : Nat} (hd : decode cc pc = .ok (.ifCond cd off, 3)) (ht : (pc : Int) + off = (tgt : Int)) (k1 : mm_cmp cd x 0 → mm_W p l e R s m args below meth c Q D cT zt A nL rho0 tgt L r h) (k2 : ¬ mm_cmp cd x 0 → mm_W p l e R s m args below meth c Q D cT zt A nL rho0 (pc + 3) L r h) : mm_W p l e R s m args below meth c Q D cT zt A nL rho0 pc L (vI x :: r) h := by
  cases cd
  · exact mr_if_eq hx hb hd ht k1 k2
  · exact mr_if_ne hx hb hd ht k1 k2
  · exact mr_if_lt hx hb hd ht k1 k2
  · exact mr_if_ge hx hb hd ht k1 k2
  · exact mr_if_gt hx hb hd ht k1 k2
  · exact mr_if_le hx hb hd ht k1 k2
end MSW
theorem mm_sw_mono {F G : Nat → Prop} {d : Nat} {x : Int32} (hFG : ∀ t, F t → G t) : ∀ {ps : List (Int × Int)}, mm_sw F d x ps → mm_sw G d x ps
  | [], h => hFG _ h
  | (_, _) :: _, h => ⟨fun z => hFG _ (h.1 z), fun z => mm_sw_mono hFG (h.2 z)⟩
/-- what a call asks of the room -/
def mm_C (Z : Nat → List Int32) (d m : Nat) (vs : List mm_V) (h : mm_H) (P : mm_A → mm_H → Prop) : Prop := match d with
  | 0 => False
  | d + 1 => mm_G Z d m vs h P
theorem mm_take_rev (st : List mm_V) (n : Nat) : (st.take n).reverse.reverse ++ st.drop n = st := by rw [List.reverse_reverse, List.take_append_drop]
set_option maxHeartbeats 4000000 in
/-- A STRETCH of steps -/
theorem mm_sound {Z : Nat → List Int32} {d mi : Nat} {Post : mm_A → mm_H → Prop} (hd6 : 6 ≤ d) : ∀ (is : List Instr) (pc : Nat) (hs : List (List Nat)) (L : mm_L) (st : List mm_V) (h : mm_H), (mm_hd mi = [] ∨ is.all mm_nc = true) → mm_chk mi pc is hs = true → mm_wp mm_K Z mm_na 6 mm_ci (fun t L st h => mm_P Z d mi t L st h Post) (mm_C Z d) Post is L st h → mm_P Z d mi pc L st h Post := by
  intro is
  induction is with
  | nil => intro pc hs L st h _ _ hw; exact hw.elim
  | cons i is ih =>
    intro pc hs L st h hh hc hw p l e R s m args below meth c D cT zt A rho0 hF
    obtain ⟨hx, htr, hb, hr, hml, hown, hnm, hlk, hex, hd1, hd2, hA, hTb⟩ := id hF
    replace ih := fun (pc : Nat) (hs : List (List Nat)) (L : mm_L) (st : List mm_V) (h : mm_H) => ih pc hs L st h (hh.imp id (fun z => by simp only [List.all_cons, Bool.and_eq_true] at z; exact z.2))
    have hnc : mm_nc i = false → mm_hd mi = [] := fun z => hh.resolve_right (by simp only [List.all_cons, Bool.and_eq_true]; intro y; rw [z] at y; exact absurd y.1 (by decide))
    have dec : ∀ j : Instr, i = j → (∀ t, j ≠ .goto_w t) → (∀ t, j ≠ .checkcast t) → ∃ o len, decode (mm_cd mi) pc = .ok (o, len) ∧ mm_res mi pc o len j (hs.headD []) = true ∧ (mm_last1 j = true ∨ mm_chk mi (pc + len) is hs.tail = true) := by
      intro j hj n1 n2
      subst hj
      unfold mm_chk at hc
      split at hc
      · exact absurd rfl (n1 _)
      · exact absurd rfl (n2 _)
      · split at hc
        · rename_i o len hdc
          simp only [Bool.and_eq_true, Bool.or_eq_true] at hc
          exact ⟨o, len, hdc, hc.1, hc.2⟩
        · cases hc
    unfold mm_wp at hw
    split at hw
    · obtain ⟨o, len, hdc, hres, -⟩ := dec _ rfl (fun _ => by simp) (fun _ => by simp)
      simp only [mm_res] at hres
      split at hres <;> simp only [Bool.and_eq_true, Bool.or_eq_true, decide_eq_true_eq, Bool.false_eq_true] at hres
      obtain ⟨rfl, ht⟩ := hres
      exact mr_goto hx hb hdc ht (hw p l e R s m args below meth c D cT zt A rho0 hF)
    · have hpc := hc
      simp only [mm_chk, decide_eq_true_eq] at hpc
      subst hpc
      exact hw p l e R s m args below meth c D cT zt A rho0 hF
    · obtain ⟨o, len, hdc, hres, hch⟩ := dec _ rfl (fun _ => by simp) (fun _ => by simp)
      have hch2 := hch.resolve_left (by simp [mm_last1])
      split at hw
      · simp only [mm_res] at hres
        split at hres <;> simp only [Bool.and_eq_true, Bool.or_eq_true, decide_eq_true_eq, Bool.false_eq_true] at hres
        obtain ⟨⟨rfl, rfl⟩, ht⟩ := hres
        exact mr_icmp hx hb hdc ht (fun z => hw.1 z p l e R s m args below meth c D cT zt A rho0 hF) (fun z => ih _ _ _ _ _ hch2 (hw.2 z) p l e R s m args below meth c D cT zt A rho0 hF)
      · exact hw.elim
    · obtain ⟨o, len, hdc, hres, hch⟩ := dec _ rfl (fun _ => by simp) (fun _ => by simp)
      have hch2 := hch.resolve_left (by simp [mm_last1])
      split at hw
      · simp only [mm_res] at hres
        split at hres <;> simp only [Bool.and_eq_true, Bool.or_eq_true, decide_eq_true_eq, Bool.false_eq_true] at hres
        obtain ⟨⟨rfl, rfl⟩, ht⟩ := hres
        exact mr_if hx hb hdc ht (fun z => hw.1 z p l e R s m args below meth c D cT zt A rho0 hF) (fun z => ih _ _ _ _ _ hch2 (hw.2 z) p l e R s m args below meth c D cT zt A rho0 hF)
      · exact hw.elim
    · obtain ⟨o, len, hdc, hres, hch⟩ := dec _ rfl (fun _ => by simp) (fun _ => by simp)
      have hch2 := hch.resolve_left (by simp [mm_last1])
      split at hw
      · simp only [mm_res] at hres
        split at hres <;> simp only [Bool.and_eq_true, Bool.or_eq_true, decide_eq_true_eq, Bool.false_eq_true] at hres
        obtain ⟨rfl, ht⟩ := hres
        exact mr_ifnull hx hb hdc ht (fun z => hw.1 z p l e R s m args below meth c D cT zt A rho0 hF) (fun z => ih _ _ _ _ _ hch2 (hw.2 z) p l e R s m args below meth c D cT zt A rho0 hF)
      · exact hw.elim
    · obtain ⟨o, len, hdc, hres, hch⟩ := dec _ rfl (fun _ => by simp) (fun _ => by simp)
      have hch2 := hch.resolve_left (by simp [mm_last1])
      split at hw
      · simp only [mm_res] at hres
        split at hres <;> simp only [Bool.and_eq_true, Bool.or_eq_true, decide_eq_true_eq, Bool.false_eq_true] at hres
        obtain ⟨rfl, ht⟩ := hres
        exact mr_ifnonnull hx hb hdc ht (fun z => hw.1 z p l e R s m args below meth c D cT zt A rho0 hF) (fun z => ih _ _ _ _ _ hch2 (hw.2 z) p l e R s m args below meth c D cT zt A rho0 hF)
      · exact hw.elim
    · obtain ⟨o, len, hdc, hres, hch⟩ := dec _ rfl (fun _ => by simp) (fun _ => by simp)
      have hch2 := hch.resolve_left (by simp [mm_last1])
      split at hw
      · simp only [mm_res] at hres
        split at hres <;> simp only [Bool.and_eq_true, Bool.or_eq_true, decide_eq_true_eq, Bool.false_eq_true] at hres
        obtain ⟨⟨rfl, rfl⟩, ht⟩ := hres
        exact mr_acmp_eq hx hb hdc ht (fun z => hw.1 z p l e R s m args below meth c D cT zt A rho0 hF) (fun z => ih _ _ _ _ _ hch2 (hw.2 z) p l e R s m args below meth c D cT zt A rho0 hF)
      · exact hw.elim
    · obtain ⟨o, len, hdc, hres, hch⟩ := dec _ rfl (fun _ => by simp) (fun _ => by simp)
      have hch2 := hch.resolve_left (by simp [mm_last1])
      split at hw
      · simp only [mm_res] at hres
        split at hres <;> simp only [Bool.and_eq_true, Bool.or_eq_true, decide_eq_true_eq, Bool.false_eq_true] at hres
        obtain ⟨⟨rfl, rfl⟩, ht⟩ := hres
        exact mr_acmp_ne hx hb hdc ht (fun z => hw.1 z p l e R s m args below meth c D cT zt A rho0 hF) (fun z => ih _ _ _ _ _ hch2 (hw.2 z) p l e R s m args below meth c D cT zt A rho0 hF)
      · exact hw.elim
    · obtain ⟨o, len, hdc, hres, hch⟩ := dec _ rfl (fun _ => by simp) (fun _ => by simp)
      split at hw
      · simp only [mm_res] at hres
        split at hres <;> simp only [Bool.and_eq_true, Bool.or_eq_true, decide_eq_true_eq, Bool.false_eq_true] at hres
        · obtain ⟨⟨⟨h0, hpq⟩, hps⟩, hq⟩ := hres
          rw [hps] at hw
          refine mr_lookup hx hb hdc hpq h0 (fun q z => by simpa only [decide_eq_true_eq] using List.all_eq_true.mp hq q z) (mm_sw_mono (fun t z => z p l e R s m args below meth c D cT zt A rho0 hF) hw)
        · obtain ⟨⟨⟨⟨h0, hps⟩, hsz⟩, hq⟩, hlo⟩ := hres
          rw [hps] at hw
          exact mr_table hx hb hdc h0 hsz (fun q z => by simpa only [decide_eq_true_eq] using List.all_eq_true.mp hq q z) hlo (mm_sw_mono (fun t z => z p l e R s m args below meth c D cT zt A rho0 hF) hw)
      · exact hw.elim
    · obtain ⟨o, len, hdc, hres, hch⟩ := dec _ rfl (fun _ => by simp) (fun _ => by simp)
      have hch2 := hch.resolve_left (by simp [mm_last1])
      obtain ⟨hn1, hn2, hG⟩ := hw
      obtain ⟨d, rfl⟩ : ∃ d', d = d' + 1 := ⟨d - 1, by omega⟩
      rename_i mx
      have hlen : (st.drop (mm_na mx)).length ≤ 12 := Nat.le_trans (by rw [List.length_drop]; omega) hn2
      have hvl : (st.take (mm_na mx)).reverse.length = mm_na mx := by rw [List.length_reverse, List.length_take]; omega
      rw [← mm_take_rev st (mm_na mx)]
      simp only [mm_res] at hres
      split at hres <;> simp only [Bool.and_eq_true, Bool.or_eq_true, decide_eq_true_eq, Bool.false_eq_true] at hres
      · obtain ⟨⟨⟨⟨⟨⟨⟨⟨rfl, hl⟩, w1⟩, w2⟩, w3⟩, w4⟩, w5⟩, w6⟩, whk⟩ := hres
        obtain ⟨c1, c2⟩ := mm_wq_of w3
        have hn : mm_pars mx = some (st.take (mm_na mx)).reverse.length := by rw [hvl]; exact w6
        rcases hl with hl | hl
        · exact mr_callS hF (mm_wq_before hl hTb) (mm_wq_before w1 hTb) (mm_wq_before w2 hTb) c1 c2 w4 w5 (hnc rfl) whk hn hlen hdc hG (fun st2 h2 hf => ih _ _ _ _ _ hch2 hf p l e R s m args below meth c D cT zt A rho0 hF)
        · exact mr_callSN hF (mm_wq_before hl hTb) (mm_wq_before w1 hTb) (mm_wq_before w2 hTb) c1 c2 w4 w5 (hnc rfl) whk hn hlen hdc hG (fun st2 h2 hf => ih _ _ _ _ _ hch2 hf p l e R s m args below meth c D cT zt A rho0 hF)
    · obtain ⟨o, len, hdc, hres, hch⟩ := dec _ rfl (fun _ => by simp) (fun _ => by simp)
      have hch2 := hch.resolve_left (by simp [mm_last1])
      obtain ⟨hn1, hn2, hG⟩ := hw
      obtain ⟨d, rfl⟩ : ∃ d', d = d' + 1 := ⟨d - 1, by omega⟩
      rename_i mx
      have hlen : (st.drop (mm_na mx)).length ≤ 12 := Nat.le_trans (by rw [List.length_drop]; omega) hn2
      have hvl : (st.take (mm_na mx)).reverse.length = mm_na mx := by rw [List.length_reverse, List.length_take]; omega
      rw [← mm_take_rev st (mm_na mx)]
      simp only [mm_res] at hres
      split at hres <;> simp only [Bool.and_eq_true, Bool.or_eq_true, decide_eq_true_eq, Bool.false_eq_true] at hres
      · obtain ⟨⟨⟨⟨⟨⟨⟨rfl, hl⟩, w1⟩, w2⟩, w3⟩, w4⟩, w5⟩, w6⟩ := hres
        obtain ⟨c1, c2⟩ := mm_wq_of w3
        have hn : mm_pars mx = some (st.take (mm_na mx)).reverse.length := by rw [hvl]; exact w6
        exact mr_callSW hF (mm_wq_before hl hTb) (mm_wq_before w1 hTb) (mm_wq_before w2 hTb) c1 c2 w4 w5 (hnc rfl) hn hlen hdc hG (fun st2 h2 hf => ih _ _ _ _ _ hch2 hf p l e R s m args below meth c D cT zt A rho0 hF)
    · obtain ⟨o, len, hdc, hres, hch⟩ := dec _ rfl (fun _ => by simp) (fun _ => by simp)
      have hch2 := hch.resolve_left (by simp [mm_last1])
      obtain ⟨hn1, hn2, hrc, hG⟩ := hw
      obtain ⟨d, rfl⟩ : ∃ d', d = d' + 1 := ⟨d - 1, by omega⟩
      rename_i mx
      have hlen : (st.drop (mm_na mx)).length ≤ 12 := Nat.le_trans (by rw [List.length_drop]; omega) hn2
      have hvl : (st.take (mm_na mx)).reverse.length = mm_na mx := by rw [List.length_reverse, List.length_take]; omega
      rw [← mm_take_rev st (mm_na mx)]
      generalize hvs : (st.take (mm_na mx)).reverse = vs at hrc hG hvl ⊢
      unfold mm_rcv at hrc
      split at hrc
      · rename_i a as
        obtain ⟨fs, ha⟩ := hrc
        simp only [mm_res] at hres
        split at hres <;> simp only [Bool.and_eq_true, Bool.or_eq_true, decide_eq_true_eq, Bool.false_eq_true] at hres
        · obtain ⟨⟨⟨⟨⟨⟨⟨⟨⟨rfl, hl⟩, w1⟩, w3⟩, w4⟩, w5⟩, w6⟩, w7⟩, w8⟩, whk⟩ := hres
          obtain ⟨c1, c2⟩ := mm_wq_of w3
          have hn : mm_pars mx = some as.length := by
            cases hq : mm_pars mx with
            | none => rw [hq] at w8; simp at w8
            | some n => rw [hq] at w8; simp only [Option.map_some, Option.some.injEq] at w8; rw [← hvl] at w8; simp at w8; rw [w8]
          rcases hl with hl | hl
          · exact mr_callI hF (mm_wq_before hl hTb) (mm_wq_before w1 hTb) c1 c2 w4 w5 (hnc rfl) whk w6 w7 hn hlen hdc hG (fun st2 h2 hf => ih _ _ _ _ _ hch2 hf p l e R s m args below meth c D cT zt A rho0 hF)
          · exact mr_callIN hF (mm_wq_before hl hTb) (mm_wq_before w1 hTb) c1 c2 w4 w5 (hnc rfl) whk w6 w7 hn hlen hdc hG (fun st2 h2 hf => ih _ _ _ _ _ hch2 hf p l e R s m args below meth c D cT zt A rho0 hF)
        · rename_i q hq
          obtain ⟨⟨⟨⟨⟨⟨⟨⟨rfl, w0⟩, w1⟩, w2⟩, w3⟩, w4⟩, w5⟩, w8⟩, whk⟩ := hres
          obtain ⟨c1, c2⟩ := mm_wq_of w3
          have hn : mm_pars mx = some as.length := by
            cases hq : mm_pars mx with
            | none => rw [hq] at w8; simp at w8
            | some n => rw [hq] at w8; simp only [Option.map_some, Option.some.injEq] at w8; rw [← hvl] at w8; simp at w8; rw [w8]
          exact mr_callV hF (mm_wq_before w0 hTb) (mm_wq_before w1 hTb) (mm_wq_before w2 hTb) c1 c2 w4 w5 (hnc rfl) whk hq ha hn hlen hdc hG (fun st2 h2 hf => ih _ _ _ _ _ hch2 hf p l e R s m args below meth c D cT zt A rho0 hF)
      · exact hrc.elim
    · obtain ⟨o, len, hdc, hres, hch⟩ := dec _ rfl (fun _ => by simp) (fun _ => by simp)
      have hch2 := hch.resolve_left (by simp [mm_last1])
      split at hw
      · simp only [mm_res] at hres
        split at hres <;> simp only [Bool.and_eq_true, Bool.or_eq_true, decide_eq_true_eq, Bool.false_eq_true] at hres
        obtain ⟨⟨⟨rfl, w0⟩, w1⟩, w2⟩ := hres
        exact mr_objInit hx hb hml hown (mm_wq_before w0 hTb) (mm_wq_before w1 hTb) (mm_wq_before w2 hTb) (by omega) (by omega) (by omega) hdc (ih _ _ _ _ _ hch2 hw.2 p l e R s m args below meth c D cT zt A rho0 hF)
      · exact hw.elim
    · obtain ⟨hn, b1, b2, hq⟩ := hw
      have hc2 := hc
      simp only [mm_chk, mm_chkT] at hc2
      split at hc2
      · rename_i i1 e1
        split at hc2
        · rename_i i2 e2
          split at hc2
          · rename_i i3 e3
            simp only [Bool.and_eq_true, decide_eq_true_eq] at hc2
            obtain ⟨⟨⟨⟨e4, e5⟩, w1⟩, w2⟩, w3⟩ := hc2
            obtain ⟨t1, t2, t3⟩ := mm_site_of w3
            obtain ⟨c1, c2⟩ := mm_wq_of w1
            split at w2
            · rename_i sa sb sc hsw
              simp only [Bool.and_eq_true, decide_eq_true_eq] at w2
              obtain ⟨rfl, rfl⟩ := w2
              exact mr_throw (hnc rfl) hF hd6 hn c1 c2 t2 rfl (List.mem_of_getElem? hsw) t1 t3 e1 e4 (n := 2) (Or.inl ⟨rfl, e2⟩) e3 e5 b1 b2 hq
            · cases w2
          · cases hc2
        · rename_i i2 e2
          split at hc2
          · rename_i i3 e3
            simp only [Bool.and_eq_true, decide_eq_true_eq] at hc2
            obtain ⟨⟨⟨⟨e4, e5⟩, w1⟩, w2⟩, w3⟩ := hc2
            obtain ⟨t1, t2, t3⟩ := mm_site_of w3
            obtain ⟨c1, c2⟩ := mm_wq_of w1
            split at w2
            · rename_i sa sb sc hsw
              simp only [Bool.and_eq_true, decide_eq_true_eq] at w2
              obtain ⟨rfl, rfl⟩ := w2
              exact mr_throw (hnc rfl) hF hd6 hn c1 c2 t2 rfl (List.mem_of_getElem? hsw) t1 t3 e1 e4 (n := 3) (Or.inr ⟨rfl, e2⟩) e3 e5 b1 b2 hq
            · cases w2
          · cases hc2
        · cases hc2
      · cases hc2
    · obtain ⟨o, len, hdc, hres, hch⟩ := dec _ rfl (fun _ => by simp) (fun _ => by simp)
      obtain ⟨rfl, hq⟩ := hw
      simp only [mm_res] at hres
      simp only [Bool.and_eq_true, Bool.or_eq_true, decide_eq_true_eq, Bool.false_eq_true] at hres
      obtain ⟨⟨rfl, rfl⟩, w1⟩ := hres
      exact mr_vret hx hb (by rw [hr]; exact w1) hlk hdc hq
    · obtain ⟨o, len, hdc, hres, hch⟩ := dec _ rfl (fun _ => by simp) (fun _ => by simp)
      split at hw
      · simp only [mm_res] at hres
        simp only [Bool.and_eq_true, Bool.or_eq_true, decide_eq_true_eq, Bool.false_eq_true] at hres
        obtain ⟨⟨rfl, rfl⟩, w1⟩ := hres
        exact mr_iret hx hb (hr.trans w1) rfl hlk hdc hw
      · exact hw.elim
    · obtain ⟨o, len, hdc, hres, hch⟩ := dec _ rfl (fun _ => by simp) (fun _ => by simp)
      split at hw
      · simp only [mm_res] at hres
        simp only [Bool.and_eq_true, Bool.or_eq_true, decide_eq_true_eq, Bool.false_eq_true] at hres
        obtain ⟨⟨rfl, rfl⟩, w1⟩ := hres
        obtain ⟨h01, hq⟩ := hw
        exact mr_iret hx hb (hr.trans w1) (by rcases h01 with rfl | rfl <;> rfl) hlk hdc hq
      · exact hw.elim
    · obtain ⟨o, len, hdc, hres, hch⟩ := dec _ rfl (fun _ => by simp) (fun _ => by simp)
      exact hw.elim
    · obtain ⟨o, len, hdc, hres, hch⟩ := dec _ rfl (fun _ => by simp) (fun _ => by simp)
      split at hw
      · simp only [mm_res] at hres
        simp only [Bool.and_eq_true, Bool.or_eq_true, decide_eq_true_eq, Bool.false_eq_true] at hres
        obtain ⟨⟨rfl, rfl⟩, w1⟩ := hres
        split at w1
        · rename_i nn hrt
          exact mr_aret hx hb (hr.trans hrt) (Or.inl ⟨_, rfl⟩) hlk hdc hw
        · rename_i nn hrt
          exact mr_aret hx hb (hr.trans hrt) (Or.inr ⟨_, rfl⟩) hlk hdc hw
        · cases w1
      · exact hw.elim
    · obtain ⟨o, len, hdc, hres, hch⟩ := dec _ rfl (fun _ => by simp) (fun _ => by simp)
      have hch2 := hch.resolve_left (by simp [mm_last1])
      split at hw
      · simp only [mm_res] at hres
        split at hres <;> simp only [Bool.and_eq_true, Bool.or_eq_true, decide_eq_true_eq, Bool.false_eq_true] at hres
        obtain ⟨⟨⟨⟨rfl, w0⟩, w1⟩, w2⟩, w3⟩ := hres
        exact mr_max hx hb hml hown (mm_wq_before w0 hTb) (mm_wq_before w1 hTb) (mm_wq_before w2 hTb) (mm_wq_before w3 hTb) (by omega) (by omega) hw.1 hdc (ih _ _ _ _ _ hch2 hw.2 p l e R s m args below meth c D cT zt A rho0 hF)
      · exact hw.elim
    · obtain ⟨o, len, hdc, hres, hch⟩ := dec _ rfl (fun _ => by simp) (fun _ => by simp)
      have hch2 := hch.resolve_left (by simp [mm_last1])
      split at hw
      · simp only [mm_res] at hres
        split at hres <;> simp only [Bool.and_eq_true, Bool.or_eq_true, decide_eq_true_eq, Bool.false_eq_true] at hres
        obtain ⟨⟨⟨⟨rfl, w0⟩, w1⟩, w2⟩, w3⟩ := hres
        exact mr_min hx hb hml hown (mm_wq_before w0 hTb) (mm_wq_before w1 hTb) (mm_wq_before w2 hTb) (mm_wq_before w3 hTb) (by omega) (by omega) hw.1 hdc (ih _ _ _ _ _ hch2 hw.2 p l e R s m args below meth c D cT zt A rho0 hF)
      · exact hw.elim
    · rename_i n1 n2 n3 n4 n5 n6 n7 n8 n9 n10 n11 n12 n13 n14 n15 n16 n17 n18 n19 n20 n21
      obtain ⟨o, len, hdc, hres, hch⟩ := dec _ rfl (fun t z => n2 t z) (fun t z => n14 t z)
      have hch2 := hch.resolve_left (by
        intro z
        unfold mm_last1 at z
        split at z <;> first | exact n1 _ rfl | exact n9 _ _ rfl | exact n15 rfl | exact n16 rfl | exact n17 rfl | exact n19 rfl | cases z)
      split at hw
      · rename_i oo hs1
        exact mm_s1_sound hF hdc hres hs1 (ih _ _ _ _ _ hch2 hw p l e R s m args below meth c D cT zt A rho0 hF)
      · exact hw.elim
