/-! AN ATOM BEGINS; A CHARACTER IS TAKEN -/
section H5
variable {X : Nat → mm_O} {Z : Nat → List Int32} {d q L : Nat} {s s' t : cS} {a b : Nat} {v k : Int}
/-- beginsAtom -/
def c_BA (s : cS) (k : Int) (r : cA) (s' : cS) : Prop := c_RP s s' 1 6 ∧ ((r = .inl (some (kI 1)) ∧ c_RS s' ∧ c_AT s' (c_bq k) 1 ∧ c_beg k = true ∧ (0 < s.1 3 1 ∨ s.2.1 3 2 = none) ∧ s'.1 3 1 = s.1 3 1 ∧ ¬ s'.2.1 3 2 = none) ∨ (r = .inl (some (kI 0)) ∧ (¬ c_beg k = true ∨ (s.1 3 1 = 0 ∧ ¬ s.2.1 3 2 = none))))
/-- the atom's form, by its first character -/
theorem c_AT_b {x y : Int} (hk : 0 ≤ k ∧ k < 256) (hb : c_beg k = true) (hx : (c_dig k = true ∧ x = 0) ∨ (¬ c_dig k = true ∧ x = 1 ∧ y = k)) (e3 : s.2.1 3 3 = some b) (e0 : s.1 b 0 = c_w x) (e1 : s.1 b 1 = c_w y) (e4 : s.1 3 4 = 1) : c_AT s (c_bq k) 1 := by
  unfold c_bq
  have w0 : c_w 0 = 0 := by decide
  have w1 : c_w 1 = 1 := by decide
  rcases hx with ⟨h1, h2⟩ | ⟨h1, h2, h3⟩
  · rw [if_pos h1]
    exact ⟨b, e3, by rw [e0, h2]; exact w0, e4, by decide, by decide⟩
  · rw [if_neg h1]
    have ek : s.1 b 1 = k := by rw [e1, h3, c_w_id ⟨by omega, by omega⟩]
    have e0' : s.1 b 0 = 1 := by rw [e0, h2]; exact w1
    by_cases h4 : c_let k = true
    · rw [if_pos h4]
      have := of_decide_eq_true h4
      exact ⟨b, e3, e0', by rw [ek]; omega, e4, by decide, by decide⟩
    · rw [if_neg h4]
      by_cases h5 : k = 45
      · rw [if_pos h5]
        exact ⟨b, e3, e0', by rw [ek]; exact h5⟩
      · rw [if_neg h5]
        have hs : c_sgn k = true := by
          unfold c_beg at hb
          simp only [Bool.or_eq_true] at hb
          rcases hb with (hb | hb) | hb
          · exact absurd hb h1
          · exact absurd hb h4
          · exact hb
        have := of_decide_eq_true hs
        exact ⟨b, e3, e0', by rw [ek]; exact h5, by rw [ek]; omega⟩
/-- the new form is the atom: what stands -/
theorem cx41s {S : cS} (m1 : ∀ i, S.2.1 3 i = s.2.1 3 i) (m2 : ∀ i, S.2.1 4 i = s.2.1 4 i) (n4 : ∀ i, S.1 3 i = s.1 3 i) (hb : b ≠ 3) {S2 : cS} (hS2 : c_uA (c_uA (c_uR S 3 3 (some b)) 3 4 (c_w 1)) 3 5 0 = S2) : S2.2.1 3 3 = some b ∧ S2.2.1 3 2 = s.2.1 3 2 ∧ (∀ i, S2.2.1 4 i = s.2.1 4 i) ∧ S2.1 3 1 = s.1 3 1 ∧ S2.1 3 4 = 1 ∧ (∀ i, S2.1 b i = S.1 b i) := by
  have w1 : c_w 1 = 1 := by decide
  subst hS2
  have e : ∀ x i, (c_uA (c_uA (c_uR S 3 3 (some b)) 3 4 (c_w 1)) 3 5 0).2.1 x i = (c_uR S 3 3 (some b)).2.1 x i := fun _ _ => rfl
  have e1 : ∀ x i, (c_uR S 3 3 (some b)).1 x i = S.1 x i := fun _ _ => rfl
  refine ⟨?_, ?_, fun i => ?_, ?_, ?_, fun i => ?_⟩
  · rw [e, c_R_at, if_pos ⟨rfl, rfl⟩]
  · rw [e, c_R_at, if_neg (by decide)]
    exact m1 2
  · rw [e, c_R_at, if_neg (fun e => absurd e.1 (by decide))]
    exact m2 i
  · rw [c_u_n2 (by decide), c_u_n2 (by decide), e1]
    exact n4 1
  · rw [c_u_n2 (by decide), c_u_at]
    exact w1
  · rw [c_uA_ne hb, c_uA_ne hb, e1]
theorem cx41t (hd : 6 ≤ d) {M : cL} (hL : M[0]? = some (some (kQ (some 3)))) (hR : c_RS s) (hk : 0 ≤ k ∧ k < 256) (hb : c_beg k = true) {x y : Int} (hx : (c_dig k = true ∧ x = 0) ∨ (¬ c_dig k = true ∧ x = 1 ∧ y = k)) {S2 : cS} (p1 : c_RP s S2 1 6) (p2 : cT S2 b = 3) (p3 : ∀ a l, cT S2 a = 3 → S2.2.1 a 4 = some l → l < b) (f3 : S2.2.1 3 3 = some b) (f2 : S2.2.1 3 2 = s.2.1 3 2) (f4 : ∀ i, S2.2.1 4 i = s.2.1 4 i) (g1 : S2.1 3 1 = s.1 3 1) (g4 : S2.1 3 4 = 1) (m3 : S2.1 b 0 = c_w x) (m4 : S2.1 b 1 = c_w y) : wc Z (fun t L st s' => CP X Z (d + 2) 41 t L st s' (c_BA s k)) (cC X Z (d + 2)) (c_BA s k) [.invokeinterface 6 3, .invokevirtual 38, .freturn] M [kQ (some 3), kQ (some 3)] S2 := by
  have t32 : cT S2 3 = 6 := c_t p1.1 (3, 6) (by decide)
  have hO : c_OP S2 := fun i hi => by rw [f4 i]; rw [g1] at hi; exact hR.1 i hi
  refine ⟨3, rfl, t32, ?_⟩
  show wc Z _ _ _ _ _ [kQ (S2.2.1 3 3), kQ (some 3)] S2
  rw [f3]
  refine c_iv (d := d + 1) (a := 3) (vs := [kQ (some 3), kQ (some b)]) (r := []) nn38 (by simp) rfl nc38 t32 (by decide) (cx38 hd p1.1 hO p2 p3) (fun r s2 hr => ?_)
  obtain ⟨q1, q2, hr⟩ := hr
  rw [g1, f2] at hr
  have w2 := c_RP_tr p1 q1
  rcases hr with ⟨e, hr⟩ | ⟨e, hr⟩
  · rw [e]
    have hw : ¬ s2.2.1 3 2 = none := by
      rcases hr with ⟨h1, h2⟩ | ⟨h1, h2, h3⟩
      · rw [h2]
        exact hR.2 h1
      · rw [h3]
        simp
    have eD : s2.1 3 1 = s.1 3 1 := (q2.1 1).trans g1
    refine ⟨Or.inr rfl, w2, Or.inl ⟨rfl, ⟨fun i hi => ?_, fun _ => hw⟩, ?_, hb, ?_, eD, hw⟩⟩
    · rw [q2.2.2.1 i, f4 i]
      rw [eD] at hi
      exact hR.1 i hi
    · exact c_AT_b hk hb hx (by rw [q2.2.1]; exact f3) (by rw [q2.2.2.2 b 0 (by decide) p2, m3]) (by rw [q2.2.2.2 b 1 (by decide) p2, m4]) (by rw [q2.1 4]; exact g4)
    · rcases hr with ⟨h1, h2⟩ | ⟨h1, h2, h3⟩
      · exact Or.inl h1
      · exact Or.inr h2
  · rw [e]
    exact ⟨Or.inl rfl, w2, Or.inr ⟨rfl, Or.inr hr⟩⟩
theorem cx41u (hd : 6 ≤ d) (hR : c_RS s) (hk : 0 ≤ k ∧ k < 256) (hb : c_beg k = true) {n x y : Int} (hx : (c_dig k = true ∧ x = 0) ∨ (¬ c_dig k = true ∧ x = 1 ∧ y = k)) {S : cS} (n1 : c_RP s S 1 6) (n2 : cT S b = 3) (n3 : ∀ a l, cT S a = 3 → S.2.1 a 4 = some l → l < b) (n4 : ∀ i, S.1 3 i = s.1 3 i) (hb3 : b ≠ 3) (m1 : ∀ i, S.2.1 3 i = s.2.1 3 i) (m2 : ∀ i, S.2.1 4 i = s.2.1 4 i) (m3 : S.1 b 0 = c_w x) (m4 : S.1 b 1 = c_w y) : wc Z (fun t L st s' => CP X Z (d + 2) 41 t L st s' (c_BA s k)) (cC X Z (d + 2)) (c_BA s k) [.multianewarray 6 3, .aload 0, .sipush 1, .multianewarray 6 4, .aload 0, .sipush 0, .multianewarray 6 5, .aload 0, .aload 0, .invokeinterface 6 3, .invokevirtual 38, .freturn] [some (kQ (some 3)), some (kI k), some (kI n)] [kQ (some b), kQ (some 3)] S := by
  have t3 : cT S 3 = 6 := c_t n1.1 (3, 6) (by decide)
  obtain ⟨p1, p2, p3⟩ := c_41s n1 n2 n3
  obtain ⟨f3, f2, f4, g1, g4, g0⟩ := cx41s m1 m2 n4 hb3 rfl
  exact ⟨3, rfl, t3, 3, rfl, t3, 3, rfl, t3, Or.inl rfl, cx41t hd rfl hR hk hb hx p1 p2 p3 f3 f2 f4 g1 g4 (by rw [g0]; exact m3) (by rw [g0]; exact m4)⟩
/-- behind the new form -/
theorem cx41v (hd : 6 ≤ d) (h : c_ok s) (hR : c_RS s) (hq : 1 ≤ (cq s).1 ∧ 6 ≤ (cq s).2) (hk : 0 ≤ k ∧ k < 256) (hb : c_beg k = true) (n x y : Int) (hx : (c_dig k = true ∧ x = 0) ∨ (¬ c_dig k = true ∧ x = 1 ∧ y = k)) : CP X Z (d + 2) 41 51 [some (kQ (some 3)), some (kI k), some (kI n)] [kI y, kI x, kQ (some (cn s)), kQ (some (cn s)), kQ (some 3)] (c_new s 3 6) (c_BA s k) := by
  have t1 : cT (c_new s 3 6) (cn s) = 3 := by rw [c_T_new, if_pos rfl]
  have h59 : 59 ≤ cn s := h.2.1.2.2.2
  obtain ⟨n1, n2, n3, n4⟩ := c_newF (x := x) (y := y) h rfl hq
  obtain ⟨m1, m2, m3, m4⟩ := c_newK (x := x) (y := y) h rfl
  refine c_at nb41_51 (by omega) rfl ?_
  refine c_iv (d := d + 1) (a := cn s) (vs := [kQ (some (cn s)), kI x, kI y]) (r := [kQ (some (cn s)), kQ (some 3)]) nn37 (by simp) rfl nc37 t1 (by decide) (cg37 (s := c_new s 3 6) (by omega) t1) (fun r s' hr => ?_)
  rw [hr.1, hr.2]
  exact cx41u hd hR hk hb hx n1 n2 n3 n4 (by omega) m1 m2 m3 m4
theorem cx41 (hd : 6 ≤ d) (h : c_ok s) (hR : c_RS s) (hk : 0 ≤ k ∧ k < 256) (hq : 1 ≤ (cq s).1 ∧ 6 ≤ (cq s).2) : CG X Z (d + 2) 41 [kQ (some 3), kI k] s (c_BA s k) := by
  have hkr : n_rng k := ⟨by omega, by omega⟩
  have h01 := c_T01 (c_dig k)
  have h25 : c_beg k = true → CP X Z (d + 2) 41 25 [some (kQ (some 3)), some (kI k), some (kI (n_T (c_dig k)))] [] s (c_BA s k) := by
    intro hb
    have h51 := fun n x y hx => cx41v (X := X) (Z := Z) hd h hR hq hk hb n x y hx
    by_cases hdg : c_dig k = true
    · rw [c_Tt hdg]
      refine c_at nb41_25 (by omega) rfl ⟨hq, ⟨by decide, by decide⟩, fun z => absurd z (by decide), fun _ => c_at nb41_39 (by omega) rfl ⟨⟨by decide, by decide⟩, fun z => absurd z (by decide), fun _ => h51 1 0 _ (Or.inl ⟨hdg, rfl⟩)⟩⟩
    · rw [c_Tf hdg]
      refine c_at nb41_25 (by omega) rfl ⟨hq, ⟨by decide, by decide⟩, fun _ => c_at nb41_38 (by omega) rfl (c_at nb41_39 (by omega) rfl ⟨⟨by decide, by decide⟩, fun _ => c_at nb41_50 (by omega) rfl (h51 0 1 k (Or.inr ⟨hdg, rfl, rfl⟩)), fun z => absurd rfl z⟩), fun z => absurd rfl z⟩
  refine c_G_of (L := [some (kQ (some 3)), some (kI k), none]) (by rw [nl41]; exact Nat.le_of_ble_eq_true rfl) (by rw [nl41]; rfl) ?_
  refine c_at nb41_0 (by omega) rfl ?_
  refine c_is (d := d + 1) (vs := [kI k]) (r := []) nn31 (by simp) (cx31 (by omega) hkr) (fun r s' hr => ?_)
  rw [hr.1, hr.2]
  refine ⟨⟨by omega, by omega⟩, fun z => h25 ?_, fun z => ?_⟩
  · have z : ¬ n_T (c_dig k) = 0 := z
    have : c_dig k = true := by
      apply Classical.byContradiction
      intro hc
      exact z (c_Tf hc)
    simp [c_beg, this]
  have z : n_T (c_dig k) = 0 := z
  refine c_is (d := d + 1) (vs := [kI k]) (r := []) nn33 (by simp) (cx33 (by omega) hkr) (fun r s' hr => ?_)
  rw [hr.1, hr.2]
  have h02 := c_T01 (c_let k)
  refine ⟨⟨by omega, by omega⟩, fun z2 => h25 ?_, fun z2 => ?_⟩
  · have z2 : ¬ n_T (c_let k) = 0 := z2
    have : c_let k = true := by
      apply Classical.byContradiction
      intro hc
      exact z2 (c_Tf hc)
    simp [c_beg, this]
  have z2 : n_T (c_let k) = 0 := z2
  refine c_is (d := d + 1) (vs := [kI k]) (r := []) nn42 (by simp) (cx42 (by omega) hkr) (fun r s' hr => ?_)
  rw [hr.1, hr.2]
  have h03 := c_T01 (c_sgn k)
  refine ⟨⟨by omega, by omega⟩, fun z3 => h25 ?_, fun z3 => ⟨Or.inl rfl, c_RP_le (c_RP_rf h) (by decide) (by decide), Or.inr ⟨rfl, Or.inl (fun hb => ?_)⟩⟩⟩
  · have z3 : ¬ n_T (c_sgn k) = 0 := z3
    have : c_sgn k = true := by
      apply Classical.byContradiction
      intro hc
      exact z3 (c_Tf hc)
    simp [c_beg, this]
  · have z3 : n_T (c_sgn k) = 0 := z3
    unfold c_beg at hb
    simp only [Bool.or_eq_true] at hb
    rcases hb with (hb | hb) | hb
    · rw [c_Tt hb] at z
      exact absurd z (by decide)
    · rw [c_Tt hb] at z2
      exact absurd z2 (by decide)
    · rw [c_Tt hb] at z3
      exact absurd z3 (by decide)
/-- takes -/
def c_TK (s : cS) (q L : Nat) (k : Int) (r : cA) (s' : cS) : Prop := c_RP s s' 1 6 ∧ ((r = .inl (some (kI 1)) ∧ c_RS s' ∧ ((c_ext q L k = true ∧ c_AT s' (c_nq q) (c_nL q L) ∧ s'.1 3 1 = s.1 3 1 ∧ s'.2.1 3 2 = s.2.1 3 2) ∨ (¬ c_ext q L k = true ∧ ((k = 32 ∧ c_AT s' 0 0 ∧ s'.1 3 1 = s.1 3 1 ∧ s'.2.1 3 2 = s.2.1 3 2) ∨ (k = 40 ∧ s.1 3 1 < 8 ∧ (0 < s.1 3 1 ∨ s.2.1 3 2 = none) ∧ c_AT s' 0 0 ∧ s'.1 3 1 = s.1 3 1 + 1) ∨ (k = 41 ∧ 0 < s.1 3 1 ∧ c_AT s' 0 0 ∧ s'.1 3 1 = s.1 3 1 - 1 ∧ s'.2.1 3 2 = s.2.1 3 2) ∨ (¬ k = 32 ∧ ¬ k = 40 ∧ ¬ k = 41 ∧ q = 0 ∧ c_beg k = true ∧ (0 < s.1 3 1 ∨ s.2.1 3 2 = none) ∧ c_AT s' (c_bq k) 1 ∧ s'.1 3 1 = s.1 3 1 ∧ ¬ s'.2.1 3 2 = none))))) ∨ (r = .inl (some (kI 0)) ∧ ¬ c_ext q L k = true ∧ ((k = 40 ∧ (¬ s.1 3 1 < 8 ∨ (s.1 3 1 = 0 ∧ ¬ s.2.1 3 2 = none))) ∨ (k = 41 ∧ s.1 3 1 = 0) ∨ (¬ k = 32 ∧ ¬ k = 40 ∧ ¬ k = 41 ∧ (¬ q = 0 ∨ ¬ c_beg k = true ∨ (s.1 3 1 = 0 ∧ ¬ s.2.1 3 2 = none))))))
theorem cx29 (hd : 6 ≤ d) (h : c_ok s) (hR : c_RS s) (hA : c_AT s q L) (hk : 0 ≤ k ∧ k < 256) (hq : 1 ≤ (cq s).1 ∧ 6 ≤ (cq s).2) : CG X Z (d + 3) 29 [kQ (some 3), kI k] s (c_TK s q L k) := by
  have t3 : cT s 3 = 6 := c_t h (3, 6) (by decide)
  have r : ∀ k : Int, 0 ≤ k ∧ k < 100 → n_rng k := fun k hk => ⟨by omega, by omega⟩
  have hkr : n_rng k := ⟨by omega, by omega⟩
  refine c_G_of (L := [some (kQ (some 3)), some (kI k), none]) (by rw [nl29]; exact Nat.le_of_ble_eq_true rfl) (by rw [nl29]; rfl) ?_
  refine c_at nb29_0 (by omega) rfl ?_
  refine c_iv (d := d + 2) (a := 3) (vs := [kQ (some 3), kI k]) (r := []) nn30 (by simp) rfl nc30 t3 (by decide) (cx30 hd h hA hk) (fun r' s1 hr => ?_)
  rcases hr with ⟨e, hx, q1, e2, e1, hA'⟩ | ⟨e, hx, es⟩
  · rw [e]
    refine ⟨⟨by decide, by decide⟩, fun z => absurd z (by decide), fun _ => ⟨Or.inr rfl, c_RP_le q1 (by decide) (by decide), Or.inl ⟨rfl, ⟨fun i hi => ?_, fun hi => ?_⟩, Or.inl ⟨hx, hA', e1, by rw [e2]⟩⟩⟩⟩
    · rw [e2]
      rw [e1] at hi
      exact hR.1 i hi
    · rw [e2]
      rw [e1] at hi
      exact hR.2 hi
  · rw [e, es]
    refine ⟨⟨by decide, by decide⟩, fun _ => ?_, fun z => absurd rfl z⟩
    have q2 := c_ok_R3 h (j := 3) (Or.inr rfl) (o := none) (fun c hc => by cases hc)
    have hq2 : 1 ≤ (cq (c_uR s 3 3 none)).1 ∧ 6 ≤ (cq (c_uR s 3 3 none)).2 := hq
    have t32 : cT (c_uR s 3 3 none) 3 = 6 := t3
    have f2 : (c_uR s 3 3 none).2.1 3 2 = s.2.1 3 2 := by rw [c_R_at, if_neg (by decide)]
    have f3 : (c_uR s 3 3 none).2.1 3 3 = none := by rw [c_R_at, if_pos ⟨rfl, rfl⟩]
    have f4 : ∀ i, (c_uR s 3 3 none).2.1 4 i = s.2.1 4 i := fun i => by rw [c_R_at, if_neg (fun e => absurd e.1 (by decide))]
    have f1 : (c_uR s 3 3 none).1 = s.1 := rfl
    have hR2 : c_RS (c_uR s 3 3 none) := ⟨fun i hi => by rw [f4 i]; exact hR.1 i hi, fun hi => by rw [f2]; exact hR.2 hi⟩
    have h22 : ∀ y : Int, ((y = 0 ∧ q = 0) ∨ (y = 1 ∧ ¬ q = 0)) → CP X Z (d + 3) 29 22 [some (kQ (some 3)), some (kI k), none] [kI y] s (c_TK s q L k) := by
      intro y hy
      refine c_at nb29_22 (by omega) rfl ⟨3, rfl, t3, ?_⟩
      generalize c_uR s 3 3 none = S at *
      have hq3 := q2.2.2.2
      have hend : ∀ t (z : Int), (z = 0 ∨ z = 1) → c_TK s q L k (.inl (some (kI z))) t → CP X Z (d + 3) 29 93 [some (kQ (some 3)), some (kI k), some (kI y)] [kI z] t (c_TK s q L k) := fun t z hz ht => c_at nb29_93 (by omega) rfl ⟨hz, ht⟩
      refine ⟨hkr, r _ (by decide), fun z32 => c_at nb29_64 (by omega) rfl ⟨Or.inr rfl, c_RP_le q2 (by decide) (by decide), Or.inl ⟨rfl, hR2, Or.inr ⟨hx, Or.inl ⟨z32, f3, by rw [f1], f2⟩⟩⟩⟩, fun z32 => ⟨r _ (by decide), fun z40 => ?_, fun z40 => ⟨r _ (by decide), fun z41 => ?_, fun z41 => ?_⟩⟩⟩
      · refine c_at nb29_66 (by omega) rfl ?_
        refine c_iv (d := d + 2) (a := 3) (vs := [kQ (some 3)]) (r := []) nn36 (by simp) rfl nc36 t32 (by decide) (cx36 hd q2.1 hR2 hq2) (fun r' s2 hr => ?_)
        obtain ⟨q3, hr⟩ := hr
        rw [f1, f2, f3] at hr
        have m := c_RP_le (c_RP_tr q2 q3) (x2 := 1) (y2 := 6) (by decide) (by decide)
        rcases hr with ⟨e, h1, h2, h3, h4, h5⟩ | ⟨e, h1⟩
        · rw [e]
          exact ⟨Or.inr rfl, m, Or.inl ⟨rfl, h1, Or.inr ⟨hx, Or.inr (Or.inl ⟨z40, h3, h4, h2, h5⟩)⟩⟩⟩
        · rw [e]
          exact ⟨Or.inl rfl, m, Or.inr ⟨rfl, hx, Or.inl ⟨z40, h1⟩⟩⟩
      · refine c_at nb29_71 (by omega) rfl ?_
        refine c_iv (d := d + 2) (a := 3) (vs := [kQ (some 3)]) (r := []) nn40 (by simp) rfl nc40 t32 (by decide) (cx40 (by omega) q2.1) (fun r' s2 hr => ?_)
        obtain ⟨q3, hr⟩ := hr
        rw [f1] at hr
        have m := c_RP_le (c_RP_tr q2 q3) (x2 := 1) (y2 := 6) (by decide) (by decide)
        rcases hr with ⟨e, h1, h2, h3⟩ | ⟨e, h1⟩
        · rw [e]
          refine ⟨Or.inr rfl, m, Or.inl ⟨rfl, ⟨fun i hi => ?_, fun hi => ?_⟩, Or.inr ⟨hx, Or.inr (Or.inr (Or.inl ⟨z41, h1, ?_, h2, ?_⟩))⟩⟩⟩
          · rw [h3, f4 i]
            exact hR.1 i (by rw [h2] at hi; omega)
          · rw [h3, f2]
            exact hR.2 h1
          · show s2.2.1 3 3 = none
            rw [h3]
            exact f3
          · rw [h3]
            exact f2
        · rw [e]
          exact ⟨Or.inl rfl, m, Or.inr ⟨rfl, hx, Or.inr (Or.inl ⟨z41, h1⟩)⟩⟩
      · have h92 : ∀ t, c_RP s t 1 6 → (¬ q = 0 ∨ ¬ c_beg k = true ∨ (s.1 3 1 = 0 ∧ ¬ s.2.1 3 2 = none)) → CP X Z (d + 3) 29 92 [some (kQ (some 3)), some (kI k), some (kI y)] [] t (c_TK s q L k) := fun t ht he => c_at nb29_92 (by omega) rfl (hend t 0 (Or.inl rfl) ⟨ht, Or.inr ⟨rfl, hx, Or.inr (Or.inr ⟨z32, z40, z41, he⟩)⟩⟩)
        refine c_at nb29_76 (by omega) rfl ⟨⟨by omega, by omega⟩, fun z => h92 _ (c_RP_le q2 (by decide) (by decide)) (Or.inl ?_), fun z => ?_⟩
        · have z : ¬ y = 0 := z
          rcases hy with hy | hy
          · exact absurd hy.1 z
          · exact hy.2
        have z : y = 0 := z
        have q0 : q = 0 := by
          rcases hy with hy | hy
          · exact hy.2
          · omega
        refine c_iv (d := d + 2) (a := 3) (vs := [kQ (some 3), kI k]) (r := []) nn41 (by simp) rfl nc41 t32 (by decide) (cx41 hd q2.1 hR2 hk hq2) (fun r' s2 hr => ?_)
        obtain ⟨q3, hr⟩ := hr
        rw [f1, f2] at hr
        have m := c_RP_le (c_RP_tr q2 q3) (x2 := 1) (y2 := 6) (by decide) (by decide)
        rcases hr with ⟨e, h1, h2, h3, h4, h5, h6⟩ | ⟨e, h1⟩
        · rw [e]
          exact ⟨⟨by decide, by decide⟩, fun z => absurd z (by decide), fun _ => hend s2 1 (Or.inr rfl) ⟨m, Or.inl ⟨rfl, h1, Or.inr ⟨hx, Or.inr (Or.inr (Or.inr ⟨z32, z40, z41, q0, h3, h4, h2, h5, h6⟩))⟩⟩⟩⟩
        · rw [e]
          exact ⟨⟨by decide, by decide⟩, fun _ => h92 s2 m (Or.inr h1), fun z => absurd rfl z⟩
    exact c_at nb29_10 (by omega) rfl ⟨3, rfl, t3, fun z => c_at nb29_21 (by omega) rfl (h22 0 (Or.inl ⟨rfl, c_AT_0 hA z⟩)), fun z => h22 1 (Or.inr ⟨rfl, fun e => z (by subst e; exact hA)⟩)⟩
end H5
