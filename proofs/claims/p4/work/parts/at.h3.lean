/-! FORMS ARE ADDED -/
def c_FR (s s' : cS) : Prop := (∀ i, s'.1 3 i = s.1 3 i) ∧ s'.2.1 3 3 = s.2.1 3 3 ∧ (∀ i, s'.2.1 4 i = s.2.1 4 i) ∧ (∀ x i, i < 2 → cT s x = 3 → s'.1 x i = s.1 x i)
def c_OP (s : cS) : Prop := ∀ i : Nat, (i : Int) < s.1 3 1 → ¬ s.2.1 4 i = none
def c_RS (s : cS) : Prop := c_OP s ∧ (0 < s.1 3 1 → ¬ s.2.1 3 2 = none)
section H4
variable {X : Nat → mm_O} {Z : Nat → List Int32} {d q L : Nat} {s s' t : cS} {a b : Nat} {v k : Int}
theorem c_FR_rf : c_FR s s := ⟨fun _ => rfl, rfl, fun _ => rfl, fun _ _ _ _ => rfl⟩
theorem c_a4 (h : c_ok s) (ha : cT s a = 3) : 4 ≠ a := fun e => by
  have t4 : cT s 4 = 30 := c_t h (4, 30) (by decide)
  rw [e, ha] at t4
  exact absurd t4 (by decide)
theorem c_FR_R (h : c_ok s) (ht : c_FR s t) (hk : c_ok t) (ta : cT t a = 3) {j : Nat} {o : Option Nat} : c_FR s (c_uR t a j o) ∧ (c_uR t a j o).2.1 3 2 = t.2.1 3 2 := by
  have n3 := c_a3 hk ta
  have n4 := c_a4 hk ta
  have eo : ∀ x i, x ≠ a → (c_uR t a j o).2.1 x i = t.2.1 x i := fun x i hx => c_updR_ne hx
  exact ⟨⟨ht.1, by rw [eo 3 3 n3]; exact ht.2.1, fun i => by rw [eo 4 i n4]; exact ht.2.2.1 i, ht.2.2.2⟩, eo 3 2 n3⟩
theorem cx39 (hd : 6 ≤ d) (h : c_ok s) (ha : cT s a = 3) (hb : cT s b = 3) (hl : ∀ l, s.2.1 a 4 = some l → l < b) : CG X Z d 39 [kQ (some a), kQ (some b)] s (fun r s' => r = .inl none ∧ c_RP s s' 0 0 ∧ c_FR s s' ∧ s'.2.1 3 2 = s.2.1 3 2) := by
  have h23 : ∀ t, c_RP s t 0 0 → c_FR s t ∧ t.2.1 3 2 = s.2.1 3 2 → CP X Z d 39 23 [some (kQ (some a)), some (kQ (some b))] [] t (fun r s' => r = .inl none ∧ c_RP s s' 0 0 ∧ c_FR s s' ∧ s'.2.1 3 2 = s.2.1 3 2) := by
    intro t ht h3
    have ta := c_E_T ht.2.1 ha (by decide)
    have tb := c_E_T ht.2.1 hb (by decide)
    have q1 := c_ok_Rf ht.1 ta (j := 4) (by decide) tb (fun e => by cases e)
    have ta1 : cT (c_uR t a 4 (some b)) a = 3 := ta
    obtain ⟨f1, f2⟩ := c_FR_R (j := 4) (o := some b) h h3.1 ht.1 ta
    have n3 := c_a3 ht.1 ta
    refine c_at nb39_23 hd rfl ⟨a, rfl, ta, a, rfl, ta, a, rfl, ta, rfl, rfl, c_RP_tr ht (c_RP_tr q1 (c_RP_uf q1.1 ta1)), ⟨fun i => ?_, f1.2.1, f1.2.2.1, fun x i hi hx => ?_⟩, f2.trans h3.2⟩
    · rw [c_uA_ne n3]
      exact f1.1 i
    · rw [← f1.2.2.2 x i hi hx]
      by_cases hxa : x = a
      · rw [hxa]
        exact c_u_n2 (by omega)
      · exact c_uA_ne hxa
  refine c_G_of (L := [some (kQ (some a)), some (kQ (some b))]) (by rw [nl39]; exact Nat.le_of_ble_eq_true rfl) (by rw [nl39]; rfl) ?_
  refine c_at nb39_0 hd rfl ⟨a, rfl, ha, fun z => ?_, fun z => ⟨a, rfl, ha, h23 _ (c_ok_Rf h ha (by decide) hb (fun e => by cases e)) (c_FR_R h c_FR_rf h ha)⟩⟩
  cases hl4 : s.2.1 a 4 with
  | none => exact absurd hl4 z
  | some l =>
    have tl := ((h.2.2.1 a).2.2.1 ha).2.1 l hl4
    exact c_at nb39_15 hd rfl ⟨a, rfl, ha, l, hl4, tl, h23 _ (c_ok_Rf h tl (by decide) hb (fun _ => hl l hl4)) (c_FR_R h c_FR_rf h tl)⟩
/-- adds -/
def c_AD (s : cS) (b : Nat) (r : cA) (s' : cS) : Prop := c_RP s s' 0 0 ∧ c_FR s s' ∧ ((r = .inl (some (kI 1)) ∧ ((0 < s.1 3 1 ∧ s'.2.1 3 2 = s.2.1 3 2) ∨ (s.1 3 1 = 0 ∧ s.2.1 3 2 = none ∧ s'.2.1 3 2 = some b))) ∨ (r = .inl (some (kI 0)) ∧ s.1 3 1 = 0 ∧ ¬ s.2.1 3 2 = none))
theorem cx38 (hd : 6 ≤ d) (h : c_ok s) (hO : c_OP s) (hb : cT s b = 3) (hl : ∀ a l, cT s a = 3 → s.2.1 a 4 = some l → l < b) : CG X Z (d + 1) 38 [kQ (some 3), kQ (some b)] s (c_AD s b) := by
  have t3 : cT s 3 = 6 := c_t h (3, 6) (by decide)
  have e0 : s.2.1 3 0 = some 4 := c_r h (3, 0, 4) (by decide)
  have t4 : cT s 4 = 30 := c_t h (4, 30) (by decide)
  have l4 : cN s 4 = 8 := c_l h (4, 8) (by decide)
  have hdp := h.2.2.2.1.1
  have fb : c_fo s (some b) := fun c hc => by cases hc; exact hb
  have h30 : s.1 3 1 = 0 → CP X Z (d + 1) 38 30 [some (kQ (some 3)), some (kQ (some b)), none] [] s (c_AD s b) := by
    intro hD
    refine c_at nb38_30 (by omega) rfl (c_at nb38_31 (by omega) rfl ⟨fun _ => ?_, fun z => absurd rfl z⟩)
    refine c_at nb38_43 (by omega) rfl ⟨3, rfl, t3, fun z => c_at nb38_52 (by omega) rfl ⟨3, rfl, t3, Or.inr rfl, c_ok_R3 h (Or.inl rfl) fb, ⟨fun _ => rfl, ?_, fun i => ?_, fun _ _ _ _ => rfl⟩, Or.inl ⟨rfl, Or.inr ⟨hD, z, ?_⟩⟩⟩, fun z => ⟨Or.inl rfl, c_RP_rf h, c_FR_rf, Or.inr ⟨rfl, hD, z⟩⟩⟩
    · rw [c_R_at, if_neg (by decide)]
    · rw [c_R_at, if_neg (fun e => absurd e.1 (by decide))]
    · rw [c_R_at, if_pos ⟨rfl, rfl⟩]
  refine c_G_of (L := [some (kQ (some 3)), some (kQ (some b)), none]) (by rw [nl38]; exact Nat.le_of_ble_eq_true rfl) (by rw [nl38]; rfl) ?_
  refine c_at nb38_0 (by omega) rfl ⟨3, rfl, t3, h.1 _ _, fun z => h30 ?_, fun z => ⟨3, rfl, t3, h.1 _ _, ⟨by decide, by decide⟩, fun z2 => absurd (show 8 < s.1 3 1 from z2) (by omega), fun z2 => ⟨3, rfl, t3, 3, rfl, t3, 4, 0, e0, t4, by decide, ⟨by omega, by rw [l4]; omega, by omega⟩, ?_⟩⟩⟩
  · have z : s.1 3 1 ≤ 0 := z
    omega
  · have z : ¬ s.1 3 1 ≤ 0 := z
    obtain ⟨c, ec⟩ : ∃ c, s.2.1 4 (s.1 3 1 - 1).toNat = some c := Option.ne_none_iff_exists'.mp (hO _ (by omega))
    have tc : cT s c = 3 := (h.2.2.1 4).2.2.2.2.2.1 t4 _ c ec
    show CP X Z (d + 1) 38 31 [some (kQ (some 3)), some (kQ (some b)), none] [kQ (s.2.1 4 (s.1 3 1 - 1).toNat)] s (c_AD s b)
    rw [ec]
    refine c_at nb38_31 (by omega) rfl ⟨fun e => absurd e (by simp), fun _ => ?_⟩
    refine c_iv (a := c) (vs := [kQ (some c), kQ (some b)]) (r := []) nn39 (by simp) rfl nc39 tc (by decide) (cx39 hd h tc hb (fun l hl4 => hl c l tc hl4)) (fun r s' hr => ?_)
    rw [hr.1]
    exact ⟨Or.inr rfl, hr.2.1, hr.2.2.1, Or.inl ⟨rfl, Or.inl ⟨by omega, hr.2.2.2⟩⟩⟩
/-- a new form: nothing else has changed -/
theorem c_newK (h : c_ok s) {x y : Int} {S : cS} (hS : c_uA (c_uA (c_new s 3 6) (cn s) 0 (c_w x)) (cn s) 1 (c_w y) = S) : (∀ i, S.2.1 3 i = s.2.1 3 i) ∧ (∀ i, S.2.1 4 i = s.2.1 4 i) ∧ S.1 (cn s) 0 = c_w x ∧ S.1 (cn s) 1 = c_w y := by
  have h59 : 59 ≤ cn s := h.2.1.2.2.2
  subst hS
  refine ⟨fun i => c_new_R (by omega), fun i => c_new_R (by omega), ?_, ?_⟩
  · show n_updA (n_updA (c_new s 3 6).1 (cn s) 0 (c_w x)) (cn s) 1 (c_w y) (cn s) 0 = _
    rw [n_ua_eq, if_neg (by decide), n_ua_eq, if_pos rfl]
  · show n_updA (n_updA (c_new s 3 6).1 (cn s) 0 (c_w x)) (cn s) 1 (c_w y) (cn s) 1 = _
    rw [n_ua_eq, if_pos rfl]
/-- opensList -/
def c_OL (s : cS) (r : cA) (s' : cS) : Prop := c_RP s s' 1 6 ∧ ((r = .inl (some (kI 1)) ∧ c_RS s' ∧ s'.2.1 3 3 = s.2.1 3 3 ∧ s.1 3 1 < 8 ∧ (0 < s.1 3 1 ∨ s.2.1 3 2 = none) ∧ s'.1 3 1 = s.1 3 1 + 1) ∨ (r = .inl (some (kI 0)) ∧ (¬ s.1 3 1 < 8 ∨ (s.1 3 1 = 0 ∧ ¬ s.2.1 3 2 = none))))
theorem cx36 (hd : 6 ≤ d) (h : c_ok s) (hR : c_RS s) (hq : 1 ≤ (cq s).1 ∧ 6 ≤ (cq s).2) : CG X Z (d + 2) 36 [kQ (some 3)] s (c_OL s) := by
  have t3 : cT s 3 = 6 := c_t h (3, 6) (by decide)
  have hdp := h.2.2.2.1.1
  refine c_G_of (L := [some (kQ (some 3)), none]) (by rw [nl36]; exact Nat.le_of_ble_eq_true rfl) (by rw [nl36]; rfl) ?_
  refine c_at nb36_0 (by omega) rfl ⟨3, rfl, t3, h.1 _ _, ⟨by decide, by decide⟩, fun z => ?_, fun z => ⟨Or.inl rfl, c_RP_le (c_RP_rf h) (by decide) (by decide), Or.inr ⟨rfl, Or.inl z⟩⟩⟩
  have z : s.1 3 1 < 8 := z
  obtain ⟨n1, n2, n3, n4⟩ := c_newF (x := 2) (y := 0) h rfl hq
  have t1 : cT (c_new s 3 6) (cn s) = 3 := by rw [c_T_new, if_pos rfl]
  refine c_at nb36_11 (by omega) rfl ⟨hq, ?_⟩
  refine c_iv (d := d + 1) (a := cn s) (vs := [kQ (some (cn s)), kI 2, kI 0]) (r := [kQ (some (cn s))]) nn37 (by simp) rfl nc37 t1 (by decide) (cg37 (s := c_new s 3 6) (by omega) t1) (fun r s' hr => ?_)
  rw [hr.1, hr.2]
  generalize hS : c_uA (c_uA (c_new s 3 6) (cn s) 0 (c_w 2)) (cn s) 1 (c_w 0) = S at n1 n2 n3 n4
  obtain ⟨m1, m2, m3, m4⟩ := c_newK h hS
  have t3S := c_E_T n1.2.1 t3 (by decide)
  have hO : c_OP S := fun i hi => by rw [m2 i]; rw [n4 1] at hi; exact hR.1 i hi
  refine c_iv (d := d + 1) (a := 3) (vs := [kQ (some 3), kQ (some (cn s))]) (r := []) nn38 (by simp) rfl nc38 t3S (by decide) (cx38 hd n1.1 hO n2 n3) (fun r s2 hr => ?_)
  obtain ⟨q1, q2, hr⟩ := hr
  rw [n4 1, m1 2] at hr
  have w2 := c_RP_tr n1 q1
  rcases hr with ⟨e, hr⟩ | ⟨e, hr⟩
  · rw [e]
    refine ⟨⟨by decide, by decide⟩, fun _ => ?_, fun z => absurd z (by decide)⟩
    have k2 := q1.1
    have t32 : cT s2 3 = 6 := c_t k2 (3, 6) (by decide)
    have e0 : s2.2.1 3 0 = some 4 := c_r k2 (3, 0, 4) (by decide)
    have t4 : cT s2 4 = 30 := c_t k2 (4, 30) (by decide)
    have l4 : cN s2 4 = 8 := c_l k2 (4, 8) (by decide)
    have hb2 : cT s2 (cn s) = 3 := c_E_T q1.2.1 n2 (by decide)
    have hd1 : s2.1 3 1 = s.1 3 1 := (q2.1 1).trans (n4 1)
    have q5 := c_ok_R4 k2 (i := (s2.1 3 1).toNat) (o := some (cn s)) (fun c hc => by cases hc; exact hb2)
    have ew : c_w (s2.1 3 1 + 1) = s.1 3 1 + 1 := by rw [hd1, c_w_id ⟨by omega, by omega⟩]
    have eD : (c_uA (c_uR s2 4 (s2.1 3 1).toNat (some (cn s))) 3 1 (c_w (s2.1 3 1 + 1))).1 3 1 = s.1 3 1 + 1 := by
      rw [c_u_at, ew]
    have eR : ∀ i, (c_uR s2 4 (s2.1 3 1).toNat (some (cn s))).2.1 3 i = s2.2.1 3 i := fun i => by rw [c_R_at, if_neg (fun e => absurd e.1 (by decide))]
    refine c_at nb36_31 (by omega) rfl ⟨3, rfl, t32, 3, rfl, t32, 4, 0, e0, t4, by decide, ⟨by omega, by rw [l4]; omega, by omega⟩, fun c hc => by cases hc; exact hb2, 3, rfl, t32, 3, rfl, t32, Or.inr rfl, ?_, Or.inl ⟨rfl, ⟨fun i hi => ?_, fun _ => ?_⟩, ?_, z, ?_, eD⟩⟩
    · refine c_RP_tr w2 (c_RP_tr q5 (c_RP_u3 q5.1 (c_w_rg _) (fun _ => ?_)))
      show 0 ≤ c_w (s2.1 3 1 + 1) ∧ c_w (s2.1 3 1 + 1) ≤ 8
      rw [ew]
      omega
    · have hi : (i : Int) < s.1 3 1 + 1 := by rw [← eD]; exact hi
      show ¬ (c_uR s2 4 (s2.1 3 1).toNat (some (cn s))).2.1 4 i = none
      rw [c_R_at]
      split
      · simp
      · rename_i hn
        rw [q2.2.2.1 i, m2 i]
        have : i ≠ (s2.1 3 1).toNat := fun e => hn ⟨rfl, e⟩
        exact hR.1 i (by omega)
    · show ¬ (c_uR s2 4 (s2.1 3 1).toNat (some (cn s))).2.1 3 2 = none
      rw [eR 2]
      rcases hr with ⟨h1, h2⟩ | ⟨h1, h2, h3⟩
      · rw [h2]
        exact hR.2 h1
      · rw [h3]
        simp
    · show (c_uR s2 4 (s2.1 3 1).toNat (some (cn s))).2.1 3 3 = _
      rw [eR 3, q2.2.1, m1 3]
    · rcases hr with ⟨h1, h2⟩ | ⟨h1, h2, h3⟩
      · exact Or.inl h1
      · exact Or.inr h2
  · rw [e]
    exact ⟨⟨by decide, by decide⟩, fun z => absurd rfl z, fun _ => ⟨Or.inl rfl, w2, Or.inr ⟨rfl, Or.inr hr⟩⟩⟩
/-- closesList -/
theorem cx40 (hd : 6 ≤ d) (h : c_ok s) : CG X Z d 40 [kQ (some 3)] s (fun r s' => c_RP s s' 0 0 ∧ ((r = .inl (some (kI 1)) ∧ 0 < s.1 3 1 ∧ s'.1 3 1 = s.1 3 1 - 1 ∧ s'.2 = s.2) ∨ (r = .inl (some (kI 0)) ∧ s.1 3 1 = 0))) := by
  have t3 : cT s 3 = 6 := c_t h (3, 6) (by decide)
  have hdp := h.2.2.2.1.1
  refine c_G_of (L := [some (kQ (some 3))]) (by rw [nl40]; exact Nat.le_of_ble_eq_true rfl) (by rw [nl40]; rfl) ?_
  refine c_at nb40_0 hd rfl ⟨3, rfl, t3, h.1 _ _, fun z => ?_, fun z => ⟨Or.inl rfl, c_RP_rf h, Or.inr ⟨rfl, z⟩⟩⟩
  have z : ¬ s.1 3 1 = 0 := z
  have ew : c_w (s.1 3 1 - 1) = s.1 3 1 - 1 := c_w_id ⟨by omega, by omega⟩
  refine c_at nb40_9 hd rfl ⟨3, rfl, t3, 3, rfl, t3, Or.inr rfl, ?_, Or.inl ⟨rfl, by omega, ?_, rfl⟩⟩
  · exact c_RP_u3 h (c_w_rg _) (fun _ => by rw [ew]; omega)
  · rw [c_u_at, ew]
end H4
