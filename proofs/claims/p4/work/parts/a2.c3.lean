theorem c_args {st : List cV} {n : Nat} : ((kgS st).take n).reverse = (st.take n).reverse.map kg := by
  unfold kgS
  rw [← List.map_take, ← List.map_reverse]
theorem c_max {x y : Int} : (if Int32.ofInt x < Int32.ofInt y then Int32.ofInt y else Int32.ofInt x) = Int32.ofInt (if c_w x < c_w y then c_w y else c_w x) := by
  have e : Int32.ofInt x < Int32.ofInt y ↔ c_w x < c_w y := Int32.lt_iff_toInt_lt
  by_cases h : c_w x < c_w y
  · rw [if_pos (e.mpr h), if_pos h, c_w_bk]
  · rw [if_neg (fun q => h (e.mp q)), if_neg h, c_w_bk]
theorem c_min {x y : Int} : (if Int32.ofInt y < Int32.ofInt x then Int32.ofInt y else Int32.ofInt x) = Int32.ofInt (if c_w y < c_w x then c_w y else c_w x) := by
  have e : Int32.ofInt y < Int32.ofInt x ↔ c_w y < c_w x := Int32.lt_iff_toInt_lt
  by_cases h : c_w y < c_w x
  · rw [if_pos (e.mpr h), if_pos h, c_w_bk]
  · rw [if_neg (fun q => h (e.mp q)), if_neg h, c_w_bk]
theorem c_kl {ci k : Nat} (h : c_kd ci k < 3) : k < (c_kds.getD ci []).length := by
  apply Classical.byContradiction
  intro hc
  unfold c_kd at h
  rw [List.getD_eq_getElem?_getD, List.getElem?_eq_none (by omega)] at h
  exact absurd h (by decide)
theorem c_K : ∀ ci : Nat, ci < 10 → ∀ k : Nat, k < 12 → (c_kd ci k = 0 → (mm_K ci)[k]? = some .int) ∧ (c_kd ci k = 1 → (mm_K ci)[k]? = some .boolean) ∧ (c_kd ci k = 2 → (∃ n, (mm_K ci)[k]? = some (.object n)) ∨ (∃ t, (mm_K ci)[k]? = some (.array t))) := by
  intro ci hci k hk
  obtain rfl | rfl | rfl | rfl | rfl | rfl | rfl | rfl | rfl | rfl : ci = 0 ∨ ci = 1 ∨ ci = 2 ∨ ci = 3 ∨ ci = 4 ∨ ci = 5 ∨ ci = 6 ∨ ci = 7 ∨ ci = 8 ∨ ci = 9 := by omega
  all_goals
    obtain rfl | rfl | rfl | rfl | rfl | rfl | rfl | rfl | rfl | rfl | rfl | rfl : k = 0 ∨ k = 1 ∨ k = 2 ∨ k = 3 ∨ k = 4 ∨ k = 5 ∨ k = 6 ∨ k = 7 ∨ k = 8 ∨ k = 9 ∨ k = 10 ∨ k = 11 := by omega
    all_goals first
      | exact ⟨fun _ => rfl, fun h => absurd h (by decide), fun h => absurd h (by decide)⟩
      | exact ⟨fun h => absurd h (by decide), fun _ => rfl, fun h => absurd h (by decide)⟩
      | exact ⟨fun h => absurd h (by decide), fun h => absurd h (by decide), fun _ => Or.inl ⟨_, rfl⟩⟩
      | exact ⟨fun h => absurd h (by decide), fun h => absurd h (by decide), fun _ => Or.inr ⟨_, rfl⟩⟩
      | exact ⟨fun h => absurd h (by decide), fun h => absurd h (by decide), fun h => absurd h (by decide)⟩
theorem c_k12 : ∀ ci : Nat, ci < 10 → (c_kds.getD ci []).length ≤ 12 := by decide
theorem c_zald {Z : Nat → List Int32} {j : Nat} {i : Int} (h : 0 ≤ i ∧ i < (Z j).length ∧ i < 100000) : mm_zald Z j (Int32.ofInt i) = some (Int32.ofInt ((Z j).getD i.toNat 0).toInt) := by
  unfold mm_zald
  have e : (Int32.ofInt i).toInt = i := n_toInt ⟨by omega, by omega⟩
  unfold mm_ix
  rw [if_neg (by rw [Int32.lt_iff_toInt_lt, e]; show ¬ i < 0; omega)]
  have e2 : (Int32.ofInt i).toNatClampNeg = i.toNat := congrArg Int.toNat e
  rw [e2, if_pos (by omega), Option.bind_some, List.getElem?_eq_getElem (by omega), n_back, List.getD_eq_getElem?_getD, List.getElem?_eq_getElem (by omega)]
  rfl
set_option maxHeartbeats 4000000 in
theorem wc_sound {X : Nat → mm_O} {Z : Nat → List Int32} {J : Nat → cL → List cV → cS → Prop} {C : Nat → List cV → cS → (cA → cS → Prop) → Prop} {Q : cA → cS → Prop} {J' : Nat → mm_L → List mm_V → mm_H → Prop} {C' : Nat → List mm_V → mm_H → (mm_A → mm_H → Prop) → Prop} {Q' : mm_A → mm_H → Prop}
    (hJ : ∀ t L st s, J t L st s → J' t (kgL L) (kgS st) (c_H X s))
    (hC : ∀ m vs s K K', (∀ r s, K r s → K' (kgA r) (c_H X s)) → C m vs s K → C' m (vs.map kg) (c_H X s) K')
    (hQ : ∀ r s, Q r s → Q' (kgA r) (c_H X s)) :
    ∀ (is : List Instr) (L : cL) (st : List cV) (s : cS), wc Z J C Q is L st s → mm_wp mm_K Z mm_na 6 mm_ci J' C' Q' is (kgL L) (kgS st) (c_H X s) := by
  intro is
  induction is with
  | nil => intro L st s h; cases h
  | cons i is ih =>
    intro L st s h
    have hKt : ∀ (rest : List cV) (r : cA) (s : cS), c_Kt Q (wc Z J C Q is L) rest r s → mm_Kt Q' (mm_wp mm_K Z mm_na 6 mm_ci J' C' Q' is (kgL L)) (kgS rest) (kgA r) (c_H X s) := by
      intro rest r s hk
      obtain (_ | x) | e := r
      · exact ih _ _ _ hk
      · exact ih _ _ _ hk
      · exact hQ (.inr e) s hk
    unfold wc at h
    split at h
    · exact hJ _ _ _ _ h
    · exact hJ _ _ _ _ h
    · split at h
      · obtain ⟨h1, h2, hb⟩ := h
        obtain ⟨h3, h4⟩ := n_br_ok hb
        exact ⟨fun z => hJ _ _ _ _ (h3 ((n_cmp_iff h1 h2).mp z)), fun z => ih _ _ _ (h4 (fun y => z ((n_cmp_iff h1 h2).mpr y)))⟩
      · cases h
    · split at h
      · obtain ⟨h1, hb⟩ := h
        obtain ⟨h3, h4⟩ := n_br_ok hb
        have e := n_cmp_iff (c := ‹Jvm.ClassFile.Cond›) h1 n_rng0
        rw [n_z] at e
        exact ⟨fun z => hJ _ _ _ _ (h3 (e.mp z)), fun z => ih _ _ _ (h4 (fun y => z (e.mpr y)))⟩
      · cases h
    · split at h
      · exact ⟨fun z => hJ _ _ _ _ (h.1 z), fun z => ih _ _ _ (h.2 z)⟩
      · cases h
    · split at h
      · exact ⟨fun z => hJ _ _ _ _ (h.1 z), fun z => ih _ _ _ (h.2 z)⟩
      · cases h
    · split at h
      · exact ⟨fun z => hJ _ _ _ _ (h.1 z), fun z => ih _ _ _ (h.2 z)⟩
      · cases h
    · split at h
      · exact ⟨fun z => hJ _ _ _ _ (h.1 z), fun z => ih _ _ _ (h.2 z)⟩
      · cases h
    · split at h
      · exact n_sw_ok h.1 (fun t z => hJ _ _ _ _ z) _ h.2
      · cases h
    · obtain ⟨h2, h3⟩ := h
      refine ⟨by simpa [kgS] using h2.1, by simpa [kgS] using h2.2, ?_⟩
      rw [c_args]
      refine hC _ _ _ _ _ (fun r s hk => ?_) h3
      have := hKt _ r s hk
      simpa [kgS] using this
    · obtain ⟨⟨h1, h2, a, ha, hta, hci⟩, h3⟩ := h
      refine ⟨by simpa [kgS] using h1, by simpa [kgS] using h2, ?_, ?_⟩
      · rw [c_args]
        cases hv : (List.take (mm_na _) st).reverse with
        | nil => rw [hv] at ha; cases ha
        | cons v vs =>
          rw [hv] at ha
          simp only [List.head?_cons, Option.some.injEq] at ha
          subst ha
          exact ⟨_, c_obj hta hci⟩
      rw [c_args]
      refine hC _ _ _ _ _ (fun r s hk => ?_) h3
      have := hKt _ r s hk
      simpa [kgS] using this
    · split at h
      · exact ⟨by simpa [kgS] using h.1, ih _ _ _ h.2⟩
      · cases h
    · exact ⟨by simpa [kgS] using h.1, h.2.1, h.2.2.1, hQ _ _ h.2.2.2⟩
    · exact ⟨by rw [h.1]; rfl, hQ _ _ h.2⟩
    · split at h
      · exact hQ _ _ h
      · cases h
    · split at h
      · refine ⟨?_, hQ _ _ h.2⟩
        rcases h.1 with rfl | rfl
        · exact Or.inl (by decide)
        · exact Or.inr (by decide)
      · cases h
    · split at h
      · exact hQ _ _ h
      · cases h
    · split at h
      · obtain ⟨h3, h4⟩ := h
        refine ⟨by simpa [kgS] using h3, ?_⟩
        have := ih _ _ _ h4
        rw [c_max]
        exact this
      · cases h
    · split at h
      · obtain ⟨h3, h4⟩ := h
        refine ⟨by simpa [kgS] using h3, ?_⟩
        have := ih _ _ _ h4
        rw [c_min]
        exact this
      · cases h
    · split at h
      · obtain ⟨a, rfl, hta, h⟩ := h
        split at h
        · rename_i hc
          have hf := c_fld (X := X) (k := _) hta hc.1 (c_kl hc.2)
          split at h
          · rename_i h2
            refine mm_st (L' := kgL L) rfl ?_ (ih _ _ _ h)
            simp only [mm_s1, kgS, List.map_cons, kg]
            rw [hf]
            unfold c_fv
            rw [if_pos h2]
            rfl
          · rename_i h2
            refine mm_st (L' := kgL L) rfl ?_ (ih _ _ _ h)
            simp only [mm_s1, kgS, List.map_cons, kg]
            rw [hf]
            unfold c_fv
            rw [if_neg h2]
            rfl
        · cases h
      · cases h
    · split at h
      · obtain ⟨a, rfl, hta, h⟩ := h
        split at h
        · rename_i hc
          have hkl := c_kl (ci := _) (k := _) (Nat.lt_of_lt_of_le hc.2 (by decide : (2 : Nat) ≤ 3))
          have hK := c_K _ hc.1 _ (Nat.lt_of_lt_of_le hkl (c_k12 _ hc.1))
          have hput := c_putI (X := X) (x := ‹Int›) hta hc.1 hkl hc.2
          split at h
          · rename_i h1
            refine mm_st (L' := kgL L) rfl ?_ (ih _ _ _ h.2)
            simp only [mm_s1, kgS, List.map_cons, kg]
            rw [hK.2.1 h1]
            simp only
            rw [if_pos (by rcases h.1 with rfl | rfl; exact Or.inl (by decide); exact Or.inr (by decide)), hput]
            rfl
          · rename_i h1
            have hput2 := c_putI (X := X) (x := c_w ‹Int›) hta hc.1 hkl hc.2
            rw [c_w_bk] at hput2
            refine mm_st (L' := kgL L) rfl ?_ (ih _ _ _ h)
            simp only [mm_s1, kgS, List.map_cons, kg]
            rw [hK.1 (by omega)]
            simp only
            rw [hput2]
            rfl
        · cases h
      · obtain ⟨a, rfl, hta, h⟩ := h
        split at h
        · rename_i hc
          have hkl := c_kl (ci := _) (k := _) (show c_kd _ _ < 3 by rw [hc.2]; decide)
          have hK := c_K _ hc.1 _ (Nat.lt_of_lt_of_le hkl (c_k12 _ hc.1))
          have hput := c_putR (X := X) (o := ‹Option Nat›) hta hc.1 hkl (by rw [hc.2]; decide)
          refine mm_st (L' := kgL L) rfl ?_ (ih _ _ _ h)
          simp only [mm_s1, kgS, List.map_cons, kg]
          rcases hK.2.2 hc.2 with ⟨nm, e⟩ | ⟨t, e⟩
          · rw [e]
            simp only
            rw [hput]
            rfl
          · rw [e]
            simp only
            rw [hput]
            rfl
        · cases h
      · cases h
    · split at h
      · rename_i hc
        refine mm_st (L' := kgL L) rfl ?_ (ih _ _ _ h.2)
        simp only [mm_s1]
        rw [c_newO hc h.1.1 h.1.2]
        simp [kgS, kg, c_H, cn]
      · cases h
    · split at h
      · obtain ⟨h1, h2, h3⟩ := h
        refine mm_st (L' := kgL L) rfl ?_ (ih _ _ _ h3)
        simp only [mm_s1, kgS, List.map_cons, kg]
        have e : (Int32.ofInt ‹Int›).toInt = ‹Int› := n_toInt ⟨by omega, by omega⟩
        have e2 : (Int32.ofInt ‹Int›).toNatClampNeg = (‹Int›).toNat := congrArg Int.toNat e
        rw [if_neg (by
          rw [e2, Int32.lt_iff_toInt_lt, e]
          show ¬ (‹Int› < 0 ∨ 134217728 < (‹Int›).toNat)
          omega), e2, c_newI h2.1 h2.2]
        simp [c_H, cn]
      · cases h
    · split at h
      · obtain ⟨a, rfl, hta, h⟩ := h
        refine mm_st (L' := kgL L) rfl ?_ (ih _ _ _ h)
        simp only [mm_s1, kgS, List.map_cons, kg]
        rw [c_len hta rfl]
        rfl
      · refine mm_st (L' := kgL L) rfl ?_ (ih _ _ _ h.2)
        simp only [mm_s1, kgS, List.map_cons, kg]
        rw [if_pos h.1]
        rfl
      · cases h
    · split at h
      · obtain ⟨a, rfl, hta, h1, h⟩ := h
        refine mm_st (L' := kgL L) rfl ?_ (ih _ _ _ h)
        simp only [mm_s1, kgS, List.map_cons, kg]
        rw [c_iald hta h1.1 h1.2.1 h1.2.2]
        rfl
      · obtain ⟨hj, h1, h⟩ := h
        refine mm_st (L' := kgL L) rfl ?_ (ih _ _ _ h)
        simp only [mm_s1, kgS, List.map_cons, kg]
        rw [if_pos hj, c_zald h1]
        rfl
      · cases h
    · split at h
      · rename_i xx ii oo rr
        obtain ⟨a, rfl, hta, h1, h⟩ := h
        have e := c_iast (X := X) (x := c_w xx) hta h1.1 h1.2.1 h1.2.2
        rw [c_w_bk] at e
        refine mm_st (L' := kgL L) rfl ?_ (ih _ _ _ h)
        simp only [mm_s1, kgS, List.map_cons, kg]
        rw [e]
        rfl
      · cases h
    · split at h
      · obtain ⟨a, j, rfl, hta, hj, h1, h⟩ := h
        refine mm_st (L' := kgL L) rfl ?_ (ih _ _ _ h)
        simp only [mm_s1, kgS, List.map_cons, kg]
        rw [c_aald hta hj h1.1 h1.2.1 h1.2.2]
        rfl
      · cases h
    · split at h
      · obtain ⟨a, j, rfl, hta, hj, h1, ho, h⟩ := h
        refine mm_st (L' := kgL L) rfl ?_ (ih _ _ _ h)
        simp only [mm_s1, kgS, List.map_cons, kg]
        rw [c_aast hta hj h1.1 h1.2.1 h1.2.2 ho]
        rfl
      · cases h
    · split at h
      · rename_i L' st' ho
        have e := c_s1_ok (Z := Z) (h := c_H X s) ho
        unfold mm_wp
        split <;> first
          | (rw [e]; exact ih _ _ _ h)
          | contradiction
          | (simp [c_s1] at ho; done)
      · cases h
/-! THE CLASS'S CONTRACTS -/
def CP (X : Nat → mm_O) (Z : Nat → List Int32) (d mi pc : Nat) (L : cL) (st : List cV) (s : cS) (Post : cA → cS → Prop) : Prop := mm_P Z d mi pc (kgL L) (kgS st) (c_H X s) (fun r h => ∃ r' s', r = kgA r' ∧ h = c_H X s' ∧ Post r' s')
def CG (X : Nat → mm_O) (Z : Nat → List Int32) (d mi : Nat) (vs : List cV) (s : cS) (Post : cA → cS → Prop) : Prop := mm_G Z d mi (vs.map kg) (c_H X s) (fun r h => ∃ r' s', r = kgA r' ∧ h = c_H X s' ∧ Post r' s')
def cC (X : Nat → mm_O) (Z : Nat → List Int32) (d m : Nat) (vs : List cV) (s : cS) (K : cA → cS → Prop) : Prop := match d with
  | 0 => False
  | d + 1 => CG X Z d m vs s K
section C3
variable {X : Nat → mm_O} {Z : Nat → List Int32} {d d' mi pc : Nat} {is : List Instr} {L : cL} {st : List cV} {s : cS} {vs : List cV} {Post Post' : cA → cS → Prop}
theorem c_at (hb : mm_blk mi pc = some is) (hd : 6 ≤ d) (hh : mm_hd mi = []) (hw : wc Z (fun t L st s => CP X Z d mi t L st s Post) (cC X Z d) Post is L st s) : CP X Z d mi pc L st s Post := by
  refine mm_at_blk hb hd (Or.inl hh) (wc_sound ?_ ?_ ?_ is L st s hw)
  · intro t L st s h
    exact h
  · intro m vs s K K' hK hc
    cases d with
    | zero => cases hc
    | succ d =>
      refine mm_G_mono hc (fun r h hr => ?_)
      obtain ⟨r', s', rfl, rfl, hk⟩ := hr
      exact hK _ _ hk
  · intro r s h
    exact ⟨r, s, rfl, rfl, h⟩
theorem c_G_of (hl : (mm_argsL (vs.map kg)).length ≤ mm_ml mi) (hL : mm_ent (mm_ml mi) (vs.map kg) = kgL L) (k : CP X Z d mi 0 L [] s Post) : CG X Z d mi vs s Post := by
  refine mm_G_of hl ?_
  rw [hL]
  exact k
theorem CG_le (h : d ≤ d') (hG : CG X Z d mi vs s Post) : CG X Z d' mi vs s Post := mm_G_le h hG
theorem CG_mono (hG : CG X Z d mi vs s Post) (h : ∀ r s, Post r s → Post' r s) : CG X Z d mi vs s Post' := mm_G_mono hG (fun r hh hr => by
  obtain ⟨r', s', e1, e2, hk⟩ := hr
  exact ⟨r', s', e1, e2, h _ _ hk⟩)
variable {J : Nat → cL → List cV → cS → Prop} {Q : cA → cS → Prop} {P : cA → cS → Prop} {r : List cV} {m a ci : Nat}
/-- a call over the arguments vs, of an object's method -/
theorem c_iv (hn : mm_na m = vs.length) (hl : vs.length + r.length ≤ 12) (hr : vs.head? = some (kQ (some a))) (hci : mm_ci m = ci) (hta : cT s a = ci) (hc : ci < 10) (hG : CG X Z d m vs s P) (hP : ∀ a s', P a s' → c_Kt Q (wc Z J (cC X Z (d + 1)) Q is L) r a s') : wc Z J (cC X Z (d + 1)) Q (.invokevirtual m :: is) L (vs.reverse ++ r) s := by
  have h1 : (vs.reverse ++ r).take (mm_na m) = vs.reverse := by rw [hn, ← List.length_reverse]; exact List.take_left
  have h2 : (vs.reverse ++ r).drop (mm_na m) = r := by rw [hn, ← List.length_reverse]; exact List.drop_left
  show (mm_na m ≤ (vs.reverse ++ r).length ∧ (vs.reverse ++ r).length ≤ 12 ∧ ∃ a, ((vs.reverse ++ r).take (mm_na m)).reverse.head? = some (kQ (some a)) ∧ cT s a = mm_ci m ∧ mm_ci m < 10) ∧ cC X Z (d + 1) m ((vs.reverse ++ r).take (mm_na m)).reverse s (c_Kt Q (wc Z J (cC X Z (d + 1)) Q is L) ((vs.reverse ++ r).drop (mm_na m)))
  rw [h1, h2, List.reverse_reverse]
  exact ⟨⟨by rw [hn]; simp, by simp; omega, a, hr, by rw [hci]; exact hta, by rw [hci]; exact hc⟩, CG_mono hG hP⟩
theorem c_is (hn : mm_na m = vs.length) (hl : vs.length + r.length ≤ 12) (hG : CG X Z d m vs s P) (hP : ∀ a s', P a s' → c_Kt Q (wc Z J (cC X Z (d + 1)) Q is L) r a s') : wc Z J (cC X Z (d + 1)) Q (.invokestatic m :: is) L (vs.reverse ++ r) s := by
  have h1 : (vs.reverse ++ r).take (mm_na m) = vs.reverse := by rw [hn, ← List.length_reverse]; exact List.take_left
  have h2 : (vs.reverse ++ r).drop (mm_na m) = r := by rw [hn, ← List.length_reverse]; exact List.drop_left
  show (mm_na m ≤ (vs.reverse ++ r).length ∧ (vs.reverse ++ r).length ≤ 12) ∧ cC X Z (d + 1) m ((vs.reverse ++ r).take (mm_na m)).reverse s (c_Kt Q (wc Z J (cC X Z (d + 1)) Q is L) ((vs.reverse ++ r).drop (mm_na m)))
  rw [h1, h2, List.reverse_reverse]
  exact ⟨⟨by rw [hn]; simp, by simp; omega⟩, CG_mono hG hP⟩
theorem CG_w {vs' : List cV} (hv : vs.map kg = vs'.map kg) (hG : CG X Z d mi vs' s Post) : CG X Z d mi vs s Post := by
  unfold CG at *
  rw [hv]
  exact hG
theorem CP_w {L' : cL} {st' : List cV} (hL : kgL L = kgL L') (hs : kgS st = kgS st') (hP : CP X Z d mi pc L' st' s Post) : CP X Z d mi pc L st s Post := by
  unfold CP at *
  rw [hL, hs]
  exact hP
theorem kg_w (x : Int) : kg (kI x) = kg (kI (c_w x)) := by
  show vI (Int32.ofInt x) = vI (Int32.ofInt (c_w x))
  rw [c_w_bk]
end C3
