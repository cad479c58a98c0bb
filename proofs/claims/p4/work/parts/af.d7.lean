section D7
variable {X : Nat → mm_O} {Z : Nat → List Int32} {d : Nat} {s s' S : cS} {a b : Nat} {v k : Int} {J : Nat → cL → List cV → cS → Prop} {Q : cA → cS → Prop} {is : List Instr} {L : cL}
/-- a unit that isn't complete yet: any place of it may change -/
theorem c_raw (h : c_ok S) (ha : 25 ≤ a) (ht : cT S a = 9) (h2 : S.2.1 a 2 = none) {j : Nat} (hj : j ≠ 2) : c_RP S (c_uR S a j (some b)) 0 0 ∧ (∀ i, i ≠ j → (c_uR S a j (some b)).2.1 a i = S.2.1 a i) := by
  have e : ∀ i, i ≠ j → (c_uR S a j (some b)).2.1 a i = S.2.1 a i := fun i hi => by rw [c_R_at, if_neg (fun q => hi q.2)]
  refine ⟨c_ok_Rd h ha ⟨fun q => ?_, fun q => ?_, fun q => ?_, fun q => ?_, fun _ hn => ?_, fun q => ?_, fun q => ?_⟩ (by simp), e⟩
  · rw [show cT (c_uR S a j (some b)) a = 9 from ht] at q; exact absurd q (by decide)
  · rw [show cT (c_uR S a j (some b)) a = 9 from ht] at q; exact absurd q (by decide)
  · rw [show cT (c_uR S a j (some b)) a = 9 from ht] at q; exact absurd q (by decide)
  · rw [show cT (c_uR S a j (some b)) a = 9 from ht] at q; exact absurd q (by decide)
  · rw [e 2 (Ne.symm hj)] at hn
    exact absurd h2 hn
  · rw [show cT (c_uR S a j (some b)) a = 9 from ht] at q; exact absurd q (by decide)
  · rw [show cT (c_uR S a j (some b)) a = 9 from ht] at q; exact absurd q (by decide)
/-- an empty Bytes for a field of the unit -/
theorem c_51b (hd : 6 ≤ d) (hL : L[0]? = some (some (kQ (some a)))) (h : c_ok S) (ha : 25 ≤ a) (ht : cT S a = 9) (h2 : S.2.1 a 2 = none) {j : Nat} (hj : j = 4 ∨ j = 5) (hq : 2 ≤ (cq S).1 ∧ 2 ≤ (cq S).2) (K : ∀ (S' : cS) (c : Nat), c_RP S S' 2 2 → S'.2.1 a j = some c → (cT S' c = 1 ∧ S'.2.1 c 0 ≠ none ∧ 25 ≤ c) → (∀ i, i ≠ j → S'.2.1 a i = S.2.1 a i) → wc Z J (cC X Z (d + 1)) Q is L [] S') : wc Z J (cC X Z (d + 1)) Q (.aload 0 :: .new 1 :: .dup :: .sipush 0 :: .invokevirtual 1 :: .multianewarray 9 j :: is) L [] S := by
  have h59 : 59 ≤ cn S := h.2.1.2.2.2
  have q1 := c_RP_new h (t := 1) (m := 2) (Or.inl (by decide)) (fun e => by cases e) ⟨by omega, by omega⟩
  have t1 : cT (c_new S 1 2) (cn S) = 1 := by rw [c_T_new, if_pos rfl]
  have hcn : cn (c_new S 1 2) = cn S + 1 := rfl
  have hbd := q1.2.2.2
  have han : a ≠ cn S := c_lt_n ht (by decide)
  have hG := cg1 (X := X) (Z := Z) (d := d) (a := cn S) (k := 0) hd q1.1 (by omega) t1 c_new_An (by decide) ⟨by unfold c_bd at hbd; omega, by show 0 ≤ _; omega⟩
  have main : ∀ (S1 : cS), c_RP S S1 2 2 → cT S1 a = 9 → S1.2.1 a 2 = none → (∀ i, S1.2.1 a i = S.2.1 a i) → cT S1 (cn S) = 1 → S1.2.1 (cn S) 0 ≠ none → wc Z J (cC X Z (d + 1)) Q (.multianewarray 9 j :: is) L [kQ (some (cn S)), kQ (some a)] S1 := by
    intro S1 m1 ta1 e2 eA tc nc
    obtain ⟨r1, r2⟩ := c_raw (b := cn S) m1.1 ha ta1 e2 (j := j) (by omega)
    have hK := K (c_uR S1 a j (some (cn S))) (cn S) (c_RP_tr m1 r1) (by rw [c_R_at, if_pos ⟨rfl, rfl⟩]) ⟨tc, c_nn (fun _ => by simp) (Or.inl tc) nc, by omega⟩ (fun i hi => by rw [r2 i hi]; exact eA i)
    rcases hj with rfl | rfl
    · exact ⟨a, rfl, ta1, hK⟩
    · exact ⟨a, rfl, ta1, hK⟩
  have hl0 : wc Z J (cC X Z (d + 1)) Q (.new 1 :: .dup :: .sipush 0 :: .invokevirtual 1 :: .multianewarray 9 j :: is) L [kQ (some a)] S := by
    refine ⟨⟨by omega, by show 2 ≤ _; omega⟩, ?_⟩
    refine c_iv (a := cn S) (vs := [kQ (some (cn S)), kI 0]) (r := [kQ (some (cn S)), kQ (some a)]) nn1 (by simp) rfl nc1 t1 (by decide) hG (fun r s' hr => ?_)
    obtain ⟨hr1, m2, e0, es⟩ := hr
    rw [hr1]
    have m12 := c_RP_tr q1 m2
    refine main s' (c_RP_le m12 (by decide) (by decide)) (c_E_T m12.2.1 ht (by decide)) ?_ (fun i => ?_) (c_E_T m2.2.1 t1 (by decide)) (by rw [e0]; simp)
    · rw [es, c_R_at, if_neg (fun q => han q.1), c_new_R (by rw [hcn]; have := (cT_lt ht (by decide)).1; unfold cn; omega), c_new_R han]
      exact h2
    · rw [es, c_R_at, if_neg (fun q => han q.1), c_new_R (by rw [hcn]; have := (cT_lt ht (by decide)).1; unfold cn; omega), c_new_R han]
  unfold wc
  simp only [c_s1, hL]
  exact hl0
theorem c_51r (hL : L[0]? = some (some (kQ (some a)))) (h : c_ok S) (ha : 25 ≤ a) (ht : cT S a = 9) (h2 : S.2.1 a 2 = none) {j : Nat} (hj : j = 6 ∨ j = 7) (hq : 1 ≤ (cq S).1) (K : ∀ (S' : cS) (c : Nat), c_RP S S' 1 0 → S'.2.1 a j = some c → cT S' c = 20 → (∀ i, i ≠ j → S'.2.1 a i = S.2.1 a i) → wc Z J (cC X Z (d + 1)) Q is L [] S') : wc Z J (cC X Z (d + 1)) Q (.aload 0 :: .sipush 0 :: .newarray .int :: .multianewarray 9 j :: is) L [] S := by
  have q1 := c_RP_new h (t := 20) (m := 0) (Or.inr rfl) (fun _ => by decide) ⟨hq, by omega⟩
  have t1 : cT (c_new S 20 0) (cn S) = 20 := by rw [c_T_new, if_pos rfl]
  have han : a ≠ cn S := c_lt_n ht (by decide)
  have ta1 : cT (c_new S 20 0) a = 9 := c_new_T ht (by decide)
  obtain ⟨r1, r2⟩ := c_raw (b := cn S) q1.1 ha ta1 (by rw [c_new_R han]; exact h2) (j := j) (by omega)
  have hK := K (c_uR (c_new S 20 0) a j (some (cn S))) (cn S) (c_RP_tr q1 r1) (by rw [c_R_at, if_pos ⟨rfl, rfl⟩]) t1 (fun i hi => by rw [r2 i hi]; exact c_new_R han)
  unfold wc
  simp only [c_s1, hL]
  rcases hj with rfl | rfl
  · exact ⟨⟨by decide, by decide⟩, ⟨hq, by show 0 ≤ _; omega⟩, a, rfl, ta1, hK⟩
  · exact ⟨⟨by decide, by decide⟩, ⟨hq, by show 0 ≤ _; omega⟩, a, rfl, ta1, hK⟩
/-- the unit is complete -/
theorem c_51c (h : c_ok S) (ha : 25 ≤ a) (ht : cT S a = 9) (h2 : S.2.1 a 2 = none) (h3 : S.2.1 a 3 = none) {p f c4 c5 p6 p7 : Nat} (tp : cT S p = 20) (tf : cT S f = 3) (e4 : S.2.1 a 4 = some c4) (k4 : cT S c4 = 1 ∧ S.2.1 c4 0 ≠ none ∧ 25 ≤ c4) (e5 : S.2.1 a 5 = some c5) (k5 : cT S c5 = 1 ∧ S.2.1 c5 0 ≠ none) (e6 : S.2.1 a 6 = some p6) (k6 : cT S p6 = 20) (e7 : S.2.1 a 7 = some p7) (k7 : cT S p7 = 20) : c_RP S (c_uR S a 2 (some p)) 0 0 ∧ c_RP (c_uR S a 2 (some p)) (c_uR (c_uR S a 2 (some p)) a 3 (some f)) 0 0 := by
  have nq : ∀ {T : cS} {t : Nat}, cT T a = 9 → cT T a = t → t ≠ 9 → False := fun h1 h2 h3 => h3 (h2.symm.trans h1)
  have ne : ∀ c, cT S c = 1 → c ≠ a := fun c hc e => by rw [e, ht] at hc; exact absurd hc (by decide)
  have x1 : c_Wa (c_uR S a 2 (some p)) a := by
    refine ⟨fun q => (nq (T := c_uR S a 2 (some p)) ht q (by decide)).elim, fun q => (nq (T := c_uR S a 2 (some p)) ht q (by decide)).elim, fun q => (nq (T := c_uR S a 2 (some p)) ht q (by decide)).elim, fun q => (nq (T := c_uR S a 2 (some p)) ht q (by decide)).elim, fun _ _ => ⟨⟨p, ?_, tp⟩, ?_, ⟨c4, ?_, k4.2.2, k4.1, ?_⟩, ⟨c5, ?_, k5.1, ?_⟩, ⟨p6, ?_, k6⟩, ⟨p7, ?_, k7⟩⟩, fun q => (nq (T := c_uR S a 2 (some p)) ht q (by decide)).elim, fun q => (nq (T := c_uR S a 2 (some p)) ht q (by decide)).elim⟩
    · rw [c_R_at, if_pos ⟨rfl, rfl⟩]
    · rw [c_R_at, if_neg (by rintro ⟨-, q⟩; cases q), h3]; intro c hc; cases hc
    · rw [c_R_at, if_neg (by rintro ⟨-, q⟩; cases q)]; exact e4
    · rw [c_R_at, if_neg (fun q => ne c4 k4.1 q.1)]; exact k4.2.1
    · rw [c_R_at, if_neg (by rintro ⟨-, q⟩; cases q)]; exact e5
    · rw [c_R_at, if_neg (fun q => ne c5 k5.1 q.1)]; exact k5.2
    · rw [c_R_at, if_neg (by rintro ⟨-, q⟩; cases q)]; exact e6
    · rw [c_R_at, if_neg (by rintro ⟨-, q⟩; cases q)]; exact e7
  have r1 := c_ok_Rd h ha x1 (by simp)
  refine ⟨r1, ?_⟩
  have x2 : c_Wa (c_uR (c_uR S a 2 (some p)) a 3 (some f)) a := by
    obtain ⟨-, -, -, -, w5, -, -⟩ := r1.1.2.2.1 a
    obtain ⟨⟨p', y1, y2⟩, -, ⟨c, y3, y4, y5, y6⟩, ⟨c', y7, y8, y9⟩, ⟨p'', y10, y11⟩, ⟨p3, y12, y13⟩⟩ := w5 ht (by rw [c_R_at, if_pos ⟨rfl, rfl⟩]; simp)
    refine ⟨fun q => (nq (T := c_uR (c_uR S a 2 (some p)) a 3 (some f)) ht q (by decide)).elim, fun q => (nq (T := c_uR (c_uR S a 2 (some p)) a 3 (some f)) ht q (by decide)).elim, fun q => (nq (T := c_uR (c_uR S a 2 (some p)) a 3 (some f)) ht q (by decide)).elim, fun q => (nq (T := c_uR (c_uR S a 2 (some p)) a 3 (some f)) ht q (by decide)).elim, fun _ _ => ⟨⟨p', ?_, y2⟩, ?_, ⟨c, ?_, y4, y5, ?_⟩, ⟨c', ?_, y8, ?_⟩, ⟨p'', ?_, y11⟩, ⟨p3, ?_, y13⟩⟩, fun q => (nq (T := c_uR (c_uR S a 2 (some p)) a 3 (some f)) ht q (by decide)).elim, fun q => (nq (T := c_uR (c_uR S a 2 (some p)) a 3 (some f)) ht q (by decide)).elim⟩
    · rw [c_R_at, if_neg (by rintro ⟨-, q⟩; cases q)]; exact y1
    · rw [c_R_at, if_pos ⟨rfl, rfl⟩]; intro c hc; cases hc; exact tf
    · rw [c_R_at, if_neg (by rintro ⟨-, q⟩; cases q)]; exact y3
    · rw [c_R_at, if_neg (fun q => ne c y5 q.1)]; exact y6
    · rw [c_R_at, if_neg (by rintro ⟨-, q⟩; cases q)]; exact y7
    · rw [c_R_at, if_neg (fun q => ne c' y8 q.1)]; exact y9
    · rw [c_R_at, if_neg (by rintro ⟨-, q⟩; cases q)]; exact y10
    · rw [c_R_at, if_neg (by rintro ⟨-, q⟩; cases q)]; exact y12
  exact c_ok_Rd r1.1 ha x2 (by simp)
end D7
