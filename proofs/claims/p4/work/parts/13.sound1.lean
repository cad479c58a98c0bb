theorem mm_gd_uws {C : String} {T : u_T} {N : Nat} : ∀ w ∈ u_ws C T N, mm_gd w = true := by
  intro w hw
  obtain ⟨k, -, rfl⟩ := List.mem_map.mp hw
  unfold u_lay
  split <;> rfl
theorem mm_uws {Z : Nat → List Int32} {ci : Nat} {q : vw_C} {s : State} {D : va_G} {cT : Nat → ClassId} {zt : Nat → Nat} {A : Nat → Prop} {args : Array Value} (hq : vwCl[ci]? = some q) (hT : mm_T Z s D cT zt A) : ∀ w ∈ u_ws q.1 q.2.1 q.2.2, w.before args s = true := fun w hw => mm_gd_args (mm_gd_uws w hw) (hT.1 w ((mm_cls_ok hq).1 w hw) (mm_gd_uws w hw))
theorem mm_fresh0 (tys : List FieldType) : ∀ v ∈ mm_fresh tys, mm_ok 0 v := by
  intro v hv
  obtain ⟨t, -, rfl⟩ := List.mem_map.mp hv
  cases t <;> trivial
theorem mm_fresh_at {tys : List FieldType} {N : Nat} (hl : tys.length = N) (ht : ∀ j, j < N → (match tys.getD j .int with | .int => true | .boolean => true | .long => true | .object _ => true | .array _ => true | _ => false) = true) (rho : List Nat) (zt : Nat → Nat) (j : Nat) (hj : j < N) : defaultValue (tys.getD j .int) = vp_V ((mm_fresh tys).map (mm_v rho zt)) j := by
  have h1 : tys[j]? = some (tys.getD j .int) := by
    rw [List.getD_eq_getElem?_getD, List.getElem?_eq_getElem (by omega)]; rfl
  have h2 := ht j hj
  simp only [vp_V, mm_fresh, List.map_map, List.getD_eq_getElem?_getD, List.getElem?_map]
  rw [List.getD_eq_getElem?_getD] at h1 h2
  rw [h1] at h2 ⊢
  generalize tys[j]?.getD FieldType.int = t at h2 ⊢
  cases t <;> simp_all [defaultValue, mm_v]
set_option maxHeartbeats 4000000 in
/-- ONE STEP of the small machine is one of the real one -/
theorem mm_s1_sound {Z : Nat → List Int32} {p : Program} {l : Launch} {e : Env} {R : Room} {s : State} {m : MethodId} {args : Array Value} {below : List Frame} {meth : Method} {c : Code} {Q : State → Prop} {D : va_G} {cT : Nat → ClassId} {zt : Nat → Nat} {A : Nat → Prop} {rho0 : List Nat} {mi d pc len : Nat} {i w : Instr} {hs : List Nat} {L L' : mm_L} {st st' : List mm_V} {h h' : mm_H}
    (hF : mm_F Z mi d p e R s m meth c D cT zt A) (hdc : decode (mm_cd mi) pc = .ok (w, len)) (hres : mm_res mi pc w len i hs = true) (hs1 : mm_s1 mm_K Z i L st h = some (L', st', h')) (k : mm_W p l e R s m args below meth c Q D cT zt A (mm_ml mi) rho0 (pc + len) L' st' h') : mm_W p l e R s m args below meth c Q D cT zt A (mm_ml mi) rho0 pc L st h := by
  obtain ⟨hx, htr, hb, hr, hml, hown, hnm, hlk, hex, hd1, hd2, hA, hTb⟩ := id hF
  have hK := hTb.2.1
  unfold mm_s1 at hs1
  split at hs1
  · cases hs1
    simp only [mm_res] at hres
    split at hres <;> simp only [Bool.and_eq_true, Bool.or_eq_true, decide_eq_true_eq, Bool.false_eq_true] at hres
    · obtain ⟨rfl, hv⟩ := hres; exact mr_iconst hx hb hdc hv k
    · obtain ⟨rfl, hv⟩ := hres; exact mr_bipush hx hb hdc hv k
    · obtain ⟨rfl, hv⟩ := hres; exact mr_sipush hx hb hdc hv k
    · obtain ⟨rfl, hv⟩ := hres; exact mr_ldc hx hb hown (mm_wq_before hv hTb) hdc k
    · obtain ⟨rfl, hv⟩ := hres; exact mr_ldcw hx hb hown (mm_wq_before hv hTb) hdc k
  · cases hs1
    simp only [mm_res] at hres
    simp only [Bool.and_eq_true, Bool.or_eq_true, decide_eq_true_eq, Bool.false_eq_true] at hres
    obtain ⟨rfl, rfl⟩ := hres
    exact mr_lconst hx hb hdc k
  · cases hs1
    simp only [mm_res] at hres
    simp only [Bool.and_eq_true, Bool.or_eq_true, decide_eq_true_eq, Bool.false_eq_true] at hres
    obtain ⟨rfl, rfl⟩ := hres
    exact mr_null hx hb hdc k
  · cases hs1
    simp only [mm_res] at hres
    split at hres <;> simp only [Bool.and_eq_true, Bool.or_eq_true, decide_eq_true_eq, Bool.false_eq_true] at hres
    obtain ⟨⟨rfl, rfl⟩, hv⟩ := hres
    exact mr_getsN hx hb hTb.2.2.2.1 hown (mm_wq_before hv hTb) hdc k
  · split at hs1
    · rename_i hL
      cases hs1
      simp only [mm_res] at hres
      split at hres <;> simp only [Bool.and_eq_true, Bool.or_eq_true, decide_eq_true_eq, Bool.false_eq_true] at hres
      · obtain ⟨rfl, rfl⟩ := hres; exact mr_iload hx hb hL hdc k
      · obtain ⟨rfl, rfl⟩ := hres; exact mr_iload_n hx hb hL hdc k
    · cases hs1
  · split at hs1
    · rename_i hL
      cases hs1
      simp only [mm_res] at hres
      split at hres <;> simp only [Bool.and_eq_true, Bool.or_eq_true, decide_eq_true_eq, Bool.false_eq_true] at hres
      · obtain ⟨rfl, rfl⟩ := hres; exact mr_lload hx hb hL hdc k
      · obtain ⟨rfl, rfl⟩ := hres; exact mr_lload_n hx hb hL hdc k
    · cases hs1
  · split at hs1
    · rename_i hL
      cases hs1
      simp only [mm_res] at hres
      split at hres <;> simp only [Bool.and_eq_true, Bool.or_eq_true, decide_eq_true_eq, Bool.false_eq_true] at hres
      · obtain ⟨rfl, rfl⟩ := hres; exact mr_aload hx hb hL hdc k
      · obtain ⟨rfl, rfl⟩ := hres; exact mr_aload_n hx hb hL hdc k
    · rename_i hL
      cases hs1
      simp only [mm_res] at hres
      split at hres <;> simp only [Bool.and_eq_true, Bool.or_eq_true, decide_eq_true_eq, Bool.false_eq_true] at hres
      · obtain ⟨rfl, rfl⟩ := hres; exact mr_aloadZ hx hb hL hdc k
      · obtain ⟨rfl, rfl⟩ := hres; exact mr_aloadZ_n hx hb hL hdc k
    · cases hs1
  · split at hs1
    · simp only [Option.map_eq_some_iff] at hs1
      obtain ⟨L2, hs2, he⟩ := hs1
      cases he
      simp only [mm_res] at hres
      split at hres <;> simp only [Bool.and_eq_true, Bool.or_eq_true, decide_eq_true_eq, Bool.false_eq_true] at hres
      · obtain ⟨rfl, rfl⟩ := hres; exact mr_istore hx hb hs2 hdc k
      · obtain ⟨rfl, rfl⟩ := hres; exact mr_istore_n hx hb hs2 hdc k
    · cases hs1
  · split at hs1
    · simp only [Option.map_eq_some_iff] at hs1
      obtain ⟨L2, hs2, he⟩ := hs1
      cases he
      simp only [mm_res] at hres
      split at hres <;> simp only [Bool.and_eq_true, Bool.or_eq_true, decide_eq_true_eq, Bool.false_eq_true] at hres
      · obtain ⟨rfl, rfl⟩ := hres; exact mr_astore hx hb hs2 hdc k
      · obtain ⟨rfl, rfl⟩ := hres; exact mr_astore_n hx hb hs2 hdc k
    · cases hs1
  · split at hs1
    · rename_i hL
      simp only [Option.map_eq_some_iff] at hs1
      obtain ⟨L2, hs2, he⟩ := hs1
      cases he
      simp only [mm_res] at hres
      simp only [Bool.and_eq_true, Bool.or_eq_true, decide_eq_true_eq, Bool.false_eq_true] at hres
      obtain ⟨rfl, rfl⟩ := hres
      exact mr_iinc hx hb hL hs2 hdc k
    · cases hs1
  · split at hs1
    · simp only [Option.map_eq_some_iff] at hs1
      obtain ⟨v, hv, he⟩ := hs1
      cases he
      simp only [mm_res] at hres
      split at hres <;> simp only [Bool.and_eq_true, Bool.or_eq_true, decide_eq_true_eq, Bool.false_eq_true] at hres
      rename_i q hq
      obtain ⟨⟨rfl, hk⟩, hw | hw⟩ := hres
      · exact mr_get hx hb (mm_uws hq hTb) (fun _ z => z) hown hK hq hk (mm_wq_before hw hTb) hv hdc k
      · exact mr_getN hx hb (mm_uws hq hTb) (fun _ z => z) hown hK hq hk (mm_wq_before hw hTb) hv hdc k
    · cases hs1
  · split at hs1
    · rename_i ci fk _ v a r
      have key : ∃ h2, mm_put h a ci fk v = some h2 ∧ (L, r, h2) = (L', st', h') ∧ ∀ rho : List Nat, narrow ((mm_K ci).getD fk .int) (mm_v rho zt v) = mm_v rho zt v ∧ fits ((mm_K ci).getD fk .int) (mm_v rho zt v) = true := by
        split at hs1
        · rename_i hty
          simp only [Option.map_eq_some_iff] at hs1
          obtain ⟨h2, g1, g2⟩ := hs1
          exact ⟨h2, g1, g2, fun rho => by simp only [List.getD_eq_getElem?_getD, hty]; exact ⟨rfl, rfl⟩⟩
        · rename_i hty
          split at hs1
          · rename_i h01
            simp only [Option.map_eq_some_iff] at hs1
            obtain ⟨h2, g1, g2⟩ := hs1
            refine ⟨h2, g1, g2, fun rho => ?_⟩
            simp only [List.getD_eq_getElem?_getD, hty]
            rcases h01 with rfl | rfl <;> exact ⟨rfl, rfl⟩
          · cases hs1
        · rename_i y _ hty
          simp only [Option.map_eq_some_iff] at hs1
          obtain ⟨h2, g1, g2⟩ := hs1
          refine ⟨h2, g1, g2, fun rho => ?_⟩
          simp only [List.getD_eq_getElem?_getD, hty]
          cases y <;> exact ⟨rfl, rfl⟩
        · rename_i y _ hty
          simp only [Option.map_eq_some_iff] at hs1
          obtain ⟨h2, g1, g2⟩ := hs1
          refine ⟨h2, g1, g2, fun rho => ?_⟩
          simp only [List.getD_eq_getElem?_getD, hty]
          cases y <;> exact ⟨rfl, rfl⟩
        · cases hs1
      obtain ⟨h2, hv, he, hn⟩ := key
      cases he
      simp only [mm_res] at hres
      split at hres <;> simp only [Bool.and_eq_true, Bool.or_eq_true, decide_eq_true_eq, Bool.false_eq_true] at hres
      rename_i q hq
      obtain ⟨o1, o2, o3, o4, o5⟩ := mm_cls_ok hq
      obtain ⟨⟨rfl, hk⟩, ⟨hw, hfin | ⟨⟨hfin, hin⟩, hdecl⟩⟩ | ⟨hw, hfin⟩⟩ := hres
      · exact mr_put hx hb (mm_uws hq hTb) (fun _ z => z) (fun j => (mm_K ci).getD j .int) o2 o3 hown hK hq hk (mm_wq_before hw hTb) hfin hn hv hdc k
      · exact mr_putF hx hb (mm_uws hq hTb) (fun _ z => z) (fun j => (mm_K ci).getD j .int) o2 o3 hown hK hq hk (mm_wq_before hw hTb) hfin (by rw [hnm]; exact hin) hdecl hn hv hdc k
      · exact mr_putN hx hb (mm_uws hq hTb) (fun _ z => z) (fun j => (mm_K ci).getD j .int) o2 o3 hown hK hq hk (mm_wq_before hw hTb) hfin hn hv hdc k
    · cases hs1
  · simp only [Option.map_eq_some_iff] at hs1
    obtain ⟨h2, hv, he⟩ := hs1
    cases he
    simp only [mm_res] at hres
    split at hres <;> simp only [Bool.and_eq_true, Bool.or_eq_true, decide_eq_true_eq, Bool.false_eq_true] at hres
    rename_i q hq
    obtain ⟨o1, o2, o3, o4, o5⟩ := mm_cls_ok hq
    obtain ⟨⟨⟨⟨rfl, w1⟩, w2⟩, w3⟩, w4⟩ := hres
    rw [o4] at hv
    exact mr_new hx hb (mm_uws hq hTb) (fun _ z => z) (fun j => (mm_K _).getD j .int) o2 hown (mm_wq_before w1 hTb) (mm_wq_before w2 hTb) (mm_wq_before w3 hTb) hK hA hq (fs := mm_fresh (mm_K _)) (fun rho j hj => mm_fresh_at o4 (fun j hj => List.all_eq_true.mp w4 j (List.mem_range.mpr hj)) rho zt j hj) (mm_fresh0 _) hv hdc k
  · split at hs1
    · split at hs1
      · cases hs1
      · rename_i hneg
        simp only [Option.map_eq_some_iff] at hs1
        obtain ⟨h2, hv, he⟩ := hs1
        cases he
        simp only [mm_res] at hres
        simp only [Bool.and_eq_true, Bool.or_eq_true, decide_eq_true_eq, Bool.false_eq_true] at hres
        obtain ⟨⟨rfl, rfl⟩, w1⟩ := hres
        exact mr_newa_int hx hb (mm_wq_before w1 hTb) hK hA (fun z => hneg (Or.inl z)) rfl (by
          have := Nat.not_lt.mp fun z => hneg (Or.inr z)
          omega) hv hdc k
    · cases hs1
  · split at hs1
    · split at hs1
      · cases hs1
      · rename_i hneg
        simp only [Option.map_eq_some_iff] at hs1
        obtain ⟨h2, hv, he⟩ := hs1
        cases he
        simp only [mm_res] at hres
        simp only [Bool.and_eq_true, Bool.or_eq_true, decide_eq_true_eq, Bool.false_eq_true] at hres
        obtain ⟨⟨rfl, rfl⟩, w1⟩ := hres
        exact mr_newa_byte hx hb (mm_wq_before w1 hTb) hK hA (fun z => hneg (Or.inl z)) rfl (by
          have := Nat.not_lt.mp fun z => hneg (Or.inr z)
          omega) hv hdc k
    · cases hs1
  · split at hs1
    · split at hs1
      · cases hs1
      · rename_i hneg
        simp only [Option.map_eq_some_iff] at hs1
        obtain ⟨h2, hv, he⟩ := hs1
        cases he
        simp only [mm_res] at hres
        simp only [Bool.and_eq_true, Bool.or_eq_true, decide_eq_true_eq, Bool.false_eq_true] at hres
        obtain ⟨⟨rfl, rfl⟩, w1⟩ := hres
        exact mr_newa_char hx hb (mm_wq_before w1 hTb) hK hA (fun z => hneg (Or.inl z)) rfl (by
          have := Nat.not_lt.mp fun z => hneg (Or.inr z)
          omega) hv hdc k
    · cases hs1
  · split at hs1
    · split at hs1
      · cases hs1
      · rename_i hneg
        simp only [Option.map_eq_some_iff] at hs1
        obtain ⟨h2, hv, he⟩ := hs1
        cases he
        simp only [mm_res] at hres
        simp only [Bool.and_eq_true, Bool.or_eq_true, decide_eq_true_eq, Bool.false_eq_true] at hres
        obtain ⟨⟨rfl, rfl⟩, w1⟩ := hres
        exact mr_newa_long hx hb (mm_wq_before w1 hTb) hK hA (fun z => hneg (Or.inl z)) rfl (by
          have := Nat.not_lt.mp fun z => hneg (Or.inr z)
          omega) hv hdc k
    · cases hs1
  · rename_i cq
    split at hs1
    · split at hs1
      · cases hs1
      · rename_i hneg
        simp only [Option.map_eq_some_iff] at hs1
        obtain ⟨h2, hv, he⟩ := hs1
        cases he
        simp only [mm_res] at hres
        split at hres <;> simp only [Bool.and_eq_true, Bool.or_eq_true, decide_eq_true_eq, Bool.false_eq_true] at hres
        obtain ⟨⟨rfl, hj⟩, w1⟩ := hres
        have hlim := Nat.not_lt.mp fun z => hneg (Or.inr z)
        obtain rfl | rfl : cq = 0 ∨ cq = 1 := by omega
        · exact mr_newq (C := "LispForge$Form") hx hb hown (mm_wq_before w1 hTb) (hTb.2.2.1 _ (by simp [mm_over])) hK (j := 0) rfl hA (fun z => hneg (Or.inl z)) rfl (by omega) hv hdc k
        · exact mr_newq (C := "LispForge$Unit") hx hb hown (mm_wq_before w1 hTb) (hTb.2.2.1 _ (by simp [mm_over])) hK (j := 1) rfl hA (fun z => hneg (Or.inl z)) rfl (by omega) hv hdc k
    · cases hs1
  · simp only [mm_res] at hres
    simp only [Bool.and_eq_true, Bool.or_eq_true, decide_eq_true_eq, Bool.false_eq_true] at hres
    obtain ⟨rfl, rfl⟩ := hres
    split at hs1
    · simp only [Option.map_eq_some_iff] at hs1
      obtain ⟨n, hv, he⟩ := hs1
      cases he
      exact mr_alen hx hb hK hv hdc k
    · split at hs1
      · rename_i hj
        cases hs1
        exact mr_zlen hx hb (hTb.2.2.2.2.1 _ hj) hdc k
      · cases hs1
    · cases hs1
  · simp only [mm_res] at hres
    simp only [Bool.and_eq_true, Bool.or_eq_true, decide_eq_true_eq, Bool.false_eq_true] at hres
    obtain ⟨rfl, rfl⟩ := hres
    split at hs1
    · simp only [Option.map_eq_some_iff] at hs1
      obtain ⟨x, hv, he⟩ := hs1
      cases he
      exact mr_iald hx hb hK hv hdc k
    · split at hs1
      · rename_i hj
        simp only [Option.map_eq_some_iff] at hs1
        obtain ⟨x, hv, he⟩ := hs1
        cases he
        exact mr_zald hx hb (hTb.2.2.2.2.1 _ hj) hv hdc k
      · cases hs1
    · cases hs1
  · simp only [mm_res] at hres
    simp only [Bool.and_eq_true, Bool.or_eq_true, decide_eq_true_eq, Bool.false_eq_true] at hres
    obtain ⟨rfl, rfl⟩ := hres
    split at hs1
    · simp only [Option.map_eq_some_iff] at hs1
      obtain ⟨x, hv, he⟩ := hs1
      cases he
      exact mr_iast hx hb hK hv hdc k
    · cases hs1
  · simp only [mm_res] at hres
    simp only [Bool.and_eq_true, Bool.or_eq_true, decide_eq_true_eq, Bool.false_eq_true] at hres
    obtain ⟨rfl, rfl⟩ := hres
    split at hs1
    · simp only [Option.map_eq_some_iff] at hs1
      obtain ⟨x, hv, he⟩ := hs1
      cases he
      exact mr_bald hx hb hK hv hdc k
    · cases hs1
  · simp only [mm_res] at hres
    simp only [Bool.and_eq_true, Bool.or_eq_true, decide_eq_true_eq, Bool.false_eq_true] at hres
    obtain ⟨rfl, rfl⟩ := hres
    split at hs1
    · simp only [Option.map_eq_some_iff] at hs1
      obtain ⟨x, hv, he⟩ := hs1
      cases he
      exact mr_cald hx hb hK hv hdc k
    · cases hs1
  · simp only [mm_res] at hres
    simp only [Bool.and_eq_true, Bool.or_eq_true, decide_eq_true_eq, Bool.false_eq_true] at hres
    obtain ⟨rfl, rfl⟩ := hres
    split at hs1
    · simp only [Option.map_eq_some_iff] at hs1
      obtain ⟨x, hv, he⟩ := hs1
      cases he
      exact mr_bast hx hb hK hv hdc k
    · cases hs1
  · simp only [mm_res] at hres
    simp only [Bool.and_eq_true, Bool.or_eq_true, decide_eq_true_eq, Bool.false_eq_true] at hres
    obtain ⟨rfl, rfl⟩ := hres
    split at hs1
    · simp only [Option.map_eq_some_iff] at hs1
      obtain ⟨x, hv, he⟩ := hs1
      cases he
      exact mr_cast hx hb hK hv hdc k
    · cases hs1
  · simp only [mm_res] at hres
    simp only [Bool.and_eq_true, Bool.or_eq_true, decide_eq_true_eq, Bool.false_eq_true] at hres
    obtain ⟨rfl, rfl⟩ := hres
    split at hs1
    · simp only [Option.map_eq_some_iff] at hs1
      obtain ⟨x, hv, he⟩ := hs1
      cases he
      exact mr_lald hx hb hK hv hdc k
    · cases hs1
  · simp only [mm_res] at hres
    simp only [Bool.and_eq_true, Bool.or_eq_true, decide_eq_true_eq, Bool.false_eq_true] at hres
    obtain ⟨rfl, rfl⟩ := hres
    split at hs1
    · simp only [Option.map_eq_some_iff] at hs1
      obtain ⟨x, hv, he⟩ := hs1
      cases he
      exact mr_last hx hb hK hv hdc k
    · cases hs1
  · simp only [mm_res] at hres
    simp only [Bool.and_eq_true, Bool.or_eq_true, decide_eq_true_eq, Bool.false_eq_true] at hres
    obtain ⟨rfl, rfl⟩ := hres
    split at hs1
    · simp only [Option.map_eq_some_iff] at hs1
      obtain ⟨x, hv, he⟩ := hs1
      cases he
      exact mr_aald hx hb hK hv hdc k
    · cases hs1
  · simp only [mm_res] at hres
    simp only [Bool.and_eq_true, Bool.or_eq_true, decide_eq_true_eq, Bool.false_eq_true] at hres
    obtain ⟨rfl, rfl⟩ := hres
    split at hs1
    · simp only [Option.map_eq_some_iff] at hs1
      obtain ⟨x, hv, he⟩ := hs1
      cases he
      exact mr_aast hx hb hK hv hdc k
    · cases hs1
  · simp only [mm_res] at hres
    simp only [Bool.and_eq_true, Bool.or_eq_true, decide_eq_true_eq, Bool.false_eq_true] at hres
    obtain ⟨rfl, rfl⟩ := hres
    split at hs1
    · cases hs1; exact mr_pop hx hb (fun x z => by cases z) hdc k
    · cases hs1; exact mr_pop hx hb (fun x z => by cases z) hdc k
    · cases hs1
  · simp only [mm_res] at hres
    simp only [Bool.and_eq_true, Bool.or_eq_true, decide_eq_true_eq, Bool.false_eq_true] at hres
    obtain ⟨rfl, rfl⟩ := hres
    split at hs1
    · cases hs1; exact mr_dup hx hb (fun x z => by cases z) hdc k
    · cases hs1; exact mr_dup hx hb (fun x z => by cases z) hdc k
    · cases hs1
  · simp only [mm_res] at hres
    simp only [Bool.and_eq_true, Bool.or_eq_true, decide_eq_true_eq, Bool.false_eq_true] at hres
    obtain ⟨rfl, rfl⟩ := hres
    split at hs1
    · cases hs1; exact mr_iadd hx hb hdc k
    · cases hs1
  · simp only [mm_res] at hres
    simp only [Bool.and_eq_true, Bool.or_eq_true, decide_eq_true_eq, Bool.false_eq_true] at hres
    obtain ⟨rfl, rfl⟩ := hres
    split at hs1
    · cases hs1; exact mr_isub hx hb hdc k
    · cases hs1
  · simp only [mm_res] at hres
    simp only [Bool.and_eq_true, Bool.or_eq_true, decide_eq_true_eq, Bool.false_eq_true] at hres
    obtain ⟨rfl, rfl⟩ := hres
    split at hs1
    · cases hs1; exact mr_imul hx hb hdc k
    · cases hs1
  · simp only [mm_res] at hres
    simp only [Bool.and_eq_true, Bool.or_eq_true, decide_eq_true_eq, Bool.false_eq_true] at hres
    obtain ⟨rfl, rfl⟩ := hres
    split at hs1
    · cases hs1; exact mr_iand hx hb hdc k
    · cases hs1
  · simp only [mm_res] at hres
    simp only [Bool.and_eq_true, Bool.or_eq_true, decide_eq_true_eq, Bool.false_eq_true] at hres
    obtain ⟨rfl, rfl⟩ := hres
    split at hs1
    · cases hs1; exact mr_ior hx hb hdc k
    · cases hs1
  · simp only [mm_res] at hres
    simp only [Bool.and_eq_true, Bool.or_eq_true, decide_eq_true_eq, Bool.false_eq_true] at hres
    obtain ⟨rfl, rfl⟩ := hres
    split at hs1
    · cases hs1; exact mr_ishl hx hb hdc k
    · cases hs1
  · simp only [mm_res] at hres
    simp only [Bool.and_eq_true, Bool.or_eq_true, decide_eq_true_eq, Bool.false_eq_true] at hres
    obtain ⟨rfl, rfl⟩ := hres
    split at hs1
    · cases hs1; exact mr_ishr hx hb hdc k
    · cases hs1
  · simp only [mm_res] at hres
    simp only [Bool.and_eq_true, Bool.or_eq_true, decide_eq_true_eq, Bool.false_eq_true] at hres
    obtain ⟨rfl, rfl⟩ := hres
    split at hs1
    · cases hs1; exact mr_ineg hx hb hdc k
    · cases hs1
  · simp only [mm_res] at hres
    simp only [Bool.and_eq_true, Bool.or_eq_true, decide_eq_true_eq, Bool.false_eq_true] at hres
    obtain ⟨rfl, rfl⟩ := hres
    split at hs1
    · cases hs1; exact mr_i2s hx hb hdc k
    · cases hs1
  · simp only [mm_res] at hres
    simp only [Bool.and_eq_true, Bool.or_eq_true, decide_eq_true_eq, Bool.false_eq_true] at hres
    obtain ⟨rfl, rfl⟩ := hres
    split at hs1
    · cases hs1; exact mr_i2b hx hb hdc k
    · cases hs1
  · simp only [mm_res] at hres
    simp only [Bool.and_eq_true, Bool.or_eq_true, decide_eq_true_eq, Bool.false_eq_true] at hres
    obtain ⟨rfl, rfl⟩ := hres
    split at hs1
    · cases hs1; exact mr_i2c hx hb hdc k
    · cases hs1
  · simp only [mm_res] at hres
    simp only [Bool.and_eq_true, Bool.or_eq_true, decide_eq_true_eq, Bool.false_eq_true] at hres
    obtain ⟨rfl, rfl⟩ := hres
    split at hs1
    · cases hs1; exact mr_i2l hx hb hdc k
    · cases hs1
  · simp only [mm_res] at hres
    simp only [Bool.and_eq_true, Bool.or_eq_true, decide_eq_true_eq, Bool.false_eq_true] at hres
    obtain ⟨rfl, rfl⟩ := hres
    split at hs1
    · cases hs1; exact mr_l2i hx hb hdc k
    · cases hs1
  · simp only [mm_res] at hres
    simp only [Bool.and_eq_true, Bool.or_eq_true, decide_eq_true_eq, Bool.false_eq_true] at hres
    obtain ⟨rfl, rfl⟩ := hres
    split at hs1
    · cases hs1; exact mr_lushr hx hb hdc k
    · cases hs1
  · simp only [mm_res] at hres
    simp only [Bool.and_eq_true, Bool.or_eq_true, decide_eq_true_eq, Bool.false_eq_true] at hres
    obtain ⟨rfl, rfl⟩ := hres
    split at hs1
    · cases hs1; exact mr_lshl hx hb hdc k
    · cases hs1
  · simp only [mm_res] at hres
    simp only [Bool.and_eq_true, Bool.or_eq_true, decide_eq_true_eq, Bool.false_eq_true] at hres
    obtain ⟨rfl, rfl⟩ := hres
    split at hs1
    · cases hs1; exact mr_land hx hb hdc k
    · cases hs1
  · simp only [mm_res] at hres
    simp only [Bool.and_eq_true, Bool.or_eq_true, decide_eq_true_eq, Bool.false_eq_true] at hres
    obtain ⟨rfl, rfl⟩ := hres
    split at hs1
    · cases hs1; exact mr_lor hx hb hdc k
    · cases hs1
  · simp only [mm_res] at hres
    simp only [Bool.and_eq_true, Bool.or_eq_true, decide_eq_true_eq, Bool.false_eq_true] at hres
    obtain ⟨rfl, rfl⟩ := hres
    split at hs1
    · cases hs1; exact mr_lcmp hx hb hdc k
    · cases hs1
  · cases hs1
    simp only [mm_res] at hres
    split at hres <;> simp only [Bool.and_eq_true, Bool.or_eq_true, decide_eq_true_eq, Bool.false_eq_true] at hres
    obtain ⟨rfl, hv⟩ := hres
    exact mr_ldc2 hx hb hown (mm_wq_before hv hTb) hdc k
  · cases hs1
