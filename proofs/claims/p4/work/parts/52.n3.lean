def n_Kt (G : List nV → nS → Prop) (rest : List nV) : nA → nS → Prop := fun r s => match r with
  | none => G rest s
  | some x => G (xI x :: rest) s
def n_sw (G : Nat → Prop) (d : Nat) (x : Int) : List (Int × Int) → Prop
  | [] => G d
  | (k, t) :: ps => n_rng k ∧ (x = k → G t.toNat) ∧ (¬ x = k → n_sw G d x ps)
theorem n_sw_ok {G G' : Nat → Prop} {d : Nat} {x : Int} (hx : n_rng x) (hG : ∀ t, G t → G' t) : ∀ ps : List (Int × Int), n_sw G d x ps → mm_sw G' d (Int32.ofInt x) ps
  | [], h => hG _ h
  | (k, t) :: ps, h => by
    obtain ⟨h0, h1, h2⟩ := h
    have e : Int32.ofInt x = Int32.ofInt k ↔ x = k := by rw [← Int32.toInt_inj, n_toInt hx, n_toInt h0]
    exact ⟨fun z => hG _ (h1 (e.mp z)), fun z => n_sw_ok hx hG ps (h2 (fun y => z (e.mpr y)))⟩
/-- A STRETCH over whole numbers: what must hold ahead of it -/
def wq (J : Nat → nL → List nV → nS → Prop) (C : Nat → List nV → nS → (nA → nS → Prop) → Prop) (Q : nA → nS → Prop) : List Instr → nL → List nV → nS → Prop
  | [], _, _, _ => False
  | i :: is, L, st, s => match i with
    | .goto t => J t.toNat L st s
    | .goto_w t => J t.toNat L st s
    | .if_icmp c t => (match st with
      | .inl y :: .inl x :: r => n_rng x ∧ n_rng y ∧ n_br c x y (J t.toNat L r s) (wq J C Q is L r s)
      | _ => False)
    | .ifCond c t => (match st with
      | .inl x :: r => n_rng x ∧ n_br c x 0 (J t.toNat L r s) (wq J C Q is L r s)
      | _ => False)
    | .lookupswitch d ps => (match st with
      | .inl x :: r => n_rng x ∧ n_sw (fun t => J t L r s) d.toNat x ps.toList
      | _ => False)
    | .invokestatic m => (mm_na m ≤ st.length ∧ st.length ≤ 12) ∧ C m (st.take (mm_na m)).reverse s (n_Kt (wq J C Q is L) (st.drop (mm_na m)))
    | .invokevirtual m => (mm_na m ≤ st.length ∧ st.length ≤ 12 ∧ (st.take (mm_na m)).reverse.head? = some (xR 25) ∧ mm_ci m = 10) ∧ C m (st.take (mm_na m)).reverse s (n_Kt (wq J C Q is L) (st.drop (mm_na m)))
    | .return_ => st = [] ∧ Q none s
    | .ireturn => (match st with
      | [.inl x] => Q (some x) s
      | _ => False)
    | .freturn => (match st with
      | [.inl x] => (x = 0 ∨ x = 1) ∧ Q (some x) s
      | _ => False)
    | .multianewarray ci k => (match st with
      | .inl x :: .inr (.inr a) :: r => if ci = 10 ∧ a = 25 ∧ k < 57 ∧ n_ref k = 0 then (if k = 28 then (x = 0 ∨ x = 1) ∧ wq J C Q is L r (n_upd s.1 k x, s.2) else wq J C Q is L r (n_upd s.1 k x, s.2)) else False
      | _ => False)
    | .iaload => (match st with
      | .inl i :: .inr (.inr a) :: r => (match n_arr a with
        | some (kd, n) => if kd = 0 then (0 ≤ i ∧ i < n) ∧ wq J C Q is L (xI (s.2 a i.toNat) :: r) s else False
        | none => False)
      | _ => False)
    | .baload => (match st with
      | .inl i :: .inr (.inr a) :: r => (match n_arr a with
        | some (kd, n) => if kd = 1 then (0 ≤ i ∧ i < n) ∧ wq J C Q is L (xI (s.2 a i.toNat) :: r) s else False
        | none => False)
      | _ => False)
    | .caload => (match st with
      | .inl i :: .inr (.inr a) :: r => (match n_arr a with
        | some (kd, n) => if kd = 2 then (0 ≤ i ∧ i < n) ∧ wq J C Q is L (xI (s.2 a i.toNat) :: r) s else False
        | none => False)
      | _ => False)
    | .iastore => (match st with
      | .inl x :: .inl i :: .inr (.inr a) :: r => (match n_arr a with
        | some (kd, n) => if kd = 0 then (0 ≤ i ∧ i < n) ∧ wq J C Q is L r (s.1, n_updA s.2 a i.toNat x) else False
        | none => False)
      | _ => False)
    | .bastore => (match st with
      | .inl x :: .inl i :: .inr (.inr a) :: r => (match n_arr a with
        | some (kd, n) => if kd = 1 then (0 ≤ i ∧ i < n) ∧ wq J C Q is L r (s.1, n_updA s.2 a i.toNat (n_b x)) else False
        | none => False)
      | _ => False)
    | .castore => (match st with
      | .inl x :: .inl i :: .inr (.inr a) :: r => (match n_arr a with
        | some (kd, n) => if kd = 2 then (0 ≤ i ∧ i < n) ∧ wq J C Q is L r (s.1, n_updA s.2 a i.toNat (n_c x)) else False
        | none => False)
      | _ => False)
    | i => (match n_s1 i L st s with
      | some (L', st', s') => wq J C Q is L' st' s'
      | none => False)
theorem n_args {st : List nV} {n : Nat} : ((ngS st).take n).reverse = (st.take n).reverse.map ng := by
  unfold ngS
  rw [← List.map_take, ← List.map_reverse]
theorem n_rcv {F T : List mm_O} {q : Nat × Nat} {s : nS} (hF : F.length = 25) {vs : List nV} (h : vs.head? = some (xR 25)) : mm_rcv (n_H F T q s) (vs.map ng) 10 := by
  obtain _ | ⟨v, vs⟩ := vs
  · cases h
  · simp only [List.head?_cons, Option.some.injEq] at h
    subst h
    exact ⟨_, n_get25 hF⟩
theorem n_K10 : ∀ k : Nat, k < 57 → n_ref k = 0 → (mm_K 10)[k]? = some (if k = 28 then .boolean else .int) := by decide +kernel
set_option maxHeartbeats 4000000 in
theorem wq_sound {F T : List mm_O} {q : Nat × Nat} (hF : F.length = 25) {Z : Nat → List Int32} {J : Nat → nL → List nV → nS → Prop} {C : Nat → List nV → nS → (nA → nS → Prop) → Prop} {Q : nA → nS → Prop} {J' : Nat → mm_L → List mm_V → mm_H → Prop} {C' : Nat → List mm_V → mm_H → (mm_A → mm_H → Prop) → Prop} {Q' : mm_A → mm_H → Prop}
    (hJ : ∀ t L st s, J t L st s → J' t (ngL L) (ngS st) (n_H F T q s))
    (hC : ∀ m vs s K K', (∀ r s, K r s → K' (ngA r) (n_H F T q s)) → C m vs s K → C' m (vs.map ng) (n_H F T q s) K')
    (hQ : ∀ r s, Q r s → Q' (ngA r) (n_H F T q s)) :
    ∀ (is : List Instr) (L : nL) (st : List nV) (s : nS), wq J C Q is L st s → mm_wp mm_K Z mm_na 6 mm_ci J' C' Q' is (ngL L) (ngS st) (n_H F T q s) := by
  intro is
  induction is with
  | nil => intro L st s h; cases h
  | cons i is ih =>
    intro L st s h
    have hKt : ∀ (rest : List nV) (r : nA) (s : nS), n_Kt (wq J C Q is L) rest r s → mm_Kt Q' (mm_wp mm_K Z mm_na 6 mm_ci J' C' Q' is (ngL L)) (ngS rest) (ngA r) (n_H F T q s) := by
      intro rest r s hk
      obtain _ | x := r
      · exact ih _ _ _ hk
      · exact ih _ _ _ hk
    unfold wq at h
    split at h
    · exact hJ _ _ _ _ h
    · exact hJ _ _ _ _ h
    · split at h
      · obtain ⟨h1, h2, hb⟩ := h
        obtain ⟨h3, h4⟩ := n_br_ok hb
        exact ⟨fun z => hJ _ _ _ _ (h3 ((n_cmp_iff h1 h2).mp z)), fun z => ih _ _ _ (h4 (fun y => z ((n_cmp_iff h1 h2).mpr y)))⟩
      · cases h
    · split at h
      · obtain ⟨h1, hb⟩ := h
        obtain ⟨h3, h4⟩ := n_br_ok hb
        have e := n_cmp_iff (c := ‹Jvm.ClassFile.Cond›) h1 n_rng0
        rw [n_z] at e
        exact ⟨fun z => hJ _ _ _ _ (h3 (e.mp z)), fun z => ih _ _ _ (h4 (fun y => z (e.mpr y)))⟩
      · cases h
    · split at h
      · exact n_sw_ok h.1 (fun t z => hJ _ _ _ _ z) _ h.2
      · cases h
    · obtain ⟨h2, h3⟩ := h
      refine ⟨by simpa [ngS] using h2.1, by simpa [ngS] using h2.2, ?_⟩
      rw [n_args]
      refine hC _ _ _ _ _ (fun r s hk => ?_) h3
      have := hKt _ r s hk
      simpa [ngS] using this
    · obtain ⟨h2, h3⟩ := h
      refine ⟨by simpa [ngS] using h2.1, by simpa [ngS] using h2.2.1, ?_, ?_⟩
      · rw [n_args, h2.2.2.2]
        exact n_rcv hF h2.2.2.1
      rw [n_args]
      refine hC _ _ _ _ _ (fun r s hk => ?_) h3
      have := hKt _ r s hk
      simpa [ngS] using this
    · exact ⟨by rw [h.1]; rfl, hQ _ _ h.2⟩
    · split at h
      · exact hQ _ _ h
      · cases h
    · split at h
      · refine ⟨?_, hQ _ _ h.2⟩
        rcases h.1 with rfl | rfl
        · exact Or.inl (by decide)
        · exact Or.inr (by decide)
      · cases h
    · split at h
      · split at h
        · rename_i hc
          obtain ⟨rfl, rfl, hk, h0⟩ := hc
          have hK := n_K10 _ hk h0
          split at h
          · rename_i hk28
            subst hk28
            refine mm_st (L' := ngL L) rfl ?_ (ih _ _ _ h.2)
            simp only [mm_s1, ngS, List.map_cons, ng]
            rw [hK]
            simp only [if_true]
            rw [if_pos (by rcases h.1 with rfl | rfl; exact Or.inl (by decide); exact Or.inr (by decide)), n_put hF hk h0]
            rfl
          · rename_i hk28
            refine mm_st (L' := ngL L) rfl ?_ (ih _ _ _ h)
            simp only [mm_s1, ngS, List.map_cons, ng]
            rw [hK, if_neg hk28]
            simp only
            rw [n_put hF hk h0]
            rfl
        · cases h
      · cases h
    iterate 3
      split at h
      · split at h
        · rename_i hn
          obtain ⟨b1, b2, b3, b4⟩ := n_arr_ok hn
          split at h
          · rename_i hk
            subst hk
            refine mm_st (L' := ngL L) rfl ?_ (ih _ _ _ h.2)
            simp only [mm_s1, ngS, List.map_cons, ng]
            rw [n_iald hF b1 b2 b3 (by rw [b4]; exact h.1)]
            rfl
          · cases h
        · cases h
      · cases h
    iterate 3
      split at h
      · split at h
        · rename_i hn
          obtain ⟨b1, b2, b3, b4⟩ := n_arr_ok hn
          split at h
          · rename_i hk
            subst hk
            refine mm_st (L' := ngL L) rfl ?_ (ih _ _ _ h.2)
            simp only [mm_s1, ngS, List.map_cons, ng]
            first
              | rw [n_iast hF b1 b2 b3 (by rw [b4]; exact h.1)]
              | rw [← n_back (vp_nar .byte _), n_iast hF b1 b2 b3 (by rw [b4]; exact h.1)]
              | rw [← n_back (vp_nar .char _), n_iast hF b1 b2 b3 (by rw [b4]; exact h.1)]
            rfl
          · cases h
        · cases h
      · cases h
    · split at h
      · rename_i L' st' s' ho
        have e := n_s1_ok (F := F) (T := T) (q := q) (Z := Z) hF ho
        unfold mm_wp
        split <;> first
          | (rw [e]; exact ih _ _ _ h)
          | contradiction
          | (simp [n_s1] at ho; done)
      · cases h
