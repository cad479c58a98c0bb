section D3
variable {X : Nat → mm_O} {Z : Nat → List Int32} {d : Nat} {s s' : cS} {a b : Nat} {v k : Int}
theorem c_bd0 : c_bd s s 0 0 := by unfold c_bd; omega
theorem c_ok_R3 (h : c_ok s) {j : Nat} (hj : j = 2 ∨ j = 3) {o : Option Nat} (ho : c_fo s o) : c_RP s (c_uR s 3 j o) 0 0 := by
  have t3 : cT s 3 = 6 := c_t h (3, 6) (by decide)
  obtain ⟨r1, r2, r3, r4⟩ := h.2.2.2.2
  have hk : (cT s 3 = 1 ∨ cT s 3 = 7 ∨ cT s 3 = 9) → o ≠ none := fun q => by rw [t3] at q; exact absurd q (by decide)
  have fo : ∀ i, c_fo s (s.2.1 3 i) → c_fo s ((c_uR s 3 j o).2.1 3 i) := fun i hi => by
    rw [c_R_at]
    split
    · exact ho
    · exact hi
  have t3' : cT (c_uR s 3 j o) 3 = 6 := t3
  refine ⟨c_ok_R h (fun p hp e => ?_) ⟨fun q => ?_, fun q => ?_, fun q => ?_, fun q => ?_, fun q => ?_, fun q => ?_, fun q => ?_⟩ hk (fun e => by cases e) ⟨fo 2 r1, fo 3 r2, r3, c_rp_E (c_E_R hk) r4⟩, c_E_R hk, c_tx_rf, c_bd0⟩
  · have hr : ∀ p ∈ c_rfs, ¬ (p.1 = 3 ∧ (p.2.1 = 2 ∨ p.2.1 = 3)) := by decide
    exact hr p hp ⟨e.1, by rw [e.2]; exact hj⟩
  all_goals (rw [t3'] at q; exact absurd q (by decide))
theorem c_ok_R4 (h : c_ok s) {i : Nat} {o : Option Nat} (ho : c_fo s o) : c_RP s (c_uR s 4 i o) 0 0 := by
  have t4 : cT s 4 = 30 := c_t h (4, 30) (by decide)
  obtain ⟨r1, r2, r3, r4⟩ := h.2.2.2.2
  have hk : (cT s 4 = 1 ∨ cT s 4 = 7 ∨ cT s 4 = 9) → o ≠ none := fun q => by rw [t4] at q; exact absurd q (by decide)
  have t4' : cT (c_uR s 4 i o) 4 = 30 := t4
  refine ⟨c_ok_R h (fun p hp e => ?_) ⟨fun q => ?_, fun q => ?_, fun q => ?_, fun q => ?_, fun q => ?_, fun _ j => ?_, fun q => ?_⟩ hk (fun e => by cases e) ⟨r1, r2, r3, c_rp_E (c_E_R hk) r4⟩, c_E_R hk, c_tx_rf, c_bd0⟩
  · have hr : ∀ p ∈ c_rfs, ¬ (p.1 = 4) := by decide
    exact hr p hp e.1
  · rw [t4'] at q; exact absurd q (by decide)
  · rw [t4'] at q; exact absurd q (by decide)
  · rw [t4'] at q; exact absurd q (by decide)
  · rw [t4'] at q; exact absurd q (by decide)
  · rw [t4'] at q; exact absurd q (by decide)
  · show c_fo s ((c_uR s 4 i o).2.1 4 j)
    rw [c_R_at]
    split
    · exact ho
    · exact (h.2.2.1 4).2.2.2.2.2.1 t4 j
  · rw [t4'] at q; exact absurd q (by decide)
theorem c_RP_u3 (h : c_ok s) {j : Nat} {x : Int} (hx : n_rng x) (h1 : j = 1 → 0 ≤ x ∧ x ≤ 8) : c_RP s (c_uA s 3 j x) 0 0 := by
  obtain ⟨a1, a2, a3, a4, a5, a6, a7⟩ := h.2.2.2.1
  refine ⟨c_ok_u h hx (c_t h (3, 6) (by decide)) (by decide) ⟨?_, a2, a3, a4, a5, a6, a7⟩, c_E_2 rfl, c_tx_u (by decide), c_bd0⟩
  show 0 ≤ n_updA s.1 3 j x 3 1 ∧ n_updA s.1 3 j x 3 1 ≤ 8
  rw [n_ua_eq]
  split
  · rename_i e
    exact h1 e.symm
  · exact a1
/-- adds -/
theorem cg38 (hd : 6 ≤ d) (h : c_ok s) (hb : cT s b = 3) (hl : ∀ a l, cT s a = 3 → s.2.1 a 4 = some l → l < b) : CG X Z (d + 1) 38 [kQ (some 3), kQ (some b)] s (fun r s' => c_b01 r ∧ c_RP s s' 0 0 ∧ (∀ i, s'.1 3 i = s.1 3 i)) := by
  have t3 : cT s 3 = 6 := c_t h (3, 6) (by decide)
  have e0 : s.2.1 3 0 = some 4 := c_r h (3, 0, 4) (by decide)
  have t4 : cT s 4 = 30 := c_t h (4, 30) (by decide)
  have l4 : cN s 4 = 8 := c_l h (4, 8) (by decide)
  have fb : c_fo s (some b) := fun c hc => by cases hc; exact hb
  have h31 : ∀ o : Option Nat, c_fo s o → CP X Z (d + 1) 38 31 [some (kQ (some 3)), some (kQ (some b)), none] [kQ o] s (fun r s' => c_b01 r ∧ c_RP s s' 0 0 ∧ (∀ i, s'.1 3 i = s.1 3 i)) := by
    intro o ho
    refine c_at nb38_31 (by omega) rfl ⟨fun _ => ?_, fun z => ?_⟩
    · refine c_at nb38_43 (by omega) rfl ⟨3, rfl, t3, fun _ => c_at nb38_52 (by omega) rfl ⟨3, rfl, t3, Or.inr rfl, ⟨1, rfl, Or.inr rfl⟩, c_ok_R3 h (Or.inl rfl) fb, fun _ => rfl⟩, fun _ => ⟨Or.inl rfl, ⟨0, rfl, Or.inl rfl⟩, c_RP_rf h, fun _ => rfl⟩⟩
    · cases o with
      | none => exact absurd rfl z
      | some c =>
        refine c_iv (a := c) (vs := [kQ (some c), kQ (some b)]) (r := []) nn39 (by simp) rfl nc39 (ho c rfl) (by decide) (cg39 hd h (ho c rfl) hb (fun l hl4 => hl c l (ho c rfl) hl4)) (fun r s' hr => ?_)
        rw [hr.1]
        exact ⟨Or.inr rfl, ⟨1, rfl, Or.inr rfl⟩, hr.2⟩
  have h30 : CP X Z (d + 1) 38 30 [some (kQ (some 3)), some (kQ (some b)), none] [] s (fun r s' => c_b01 r ∧ c_RP s s' 0 0 ∧ (∀ i, s'.1 3 i = s.1 3 i)) := c_at nb38_30 (by omega) rfl (h31 none (fun c hc => by cases hc))
  refine c_G_of (L := [some (kQ (some 3)), some (kQ (some b)), none]) (by rw [nl38]; exact Nat.le_of_ble_eq_true rfl) (by rw [nl38]; rfl) ?_
  exact c_at nb38_0 (by omega) rfl ⟨3, rfl, t3, h.1 _ _, fun _ => h30, fun z => ⟨3, rfl, t3, h.1 _ _, ⟨by decide, by decide⟩, fun _ => h30, fun z2 => ⟨3, rfl, t3, 3, rfl, t3, 4, 0, e0, t4, by decide, ⟨by omega, by rw [l4]; omega, by omega⟩, h31 _ ((h.2.2.1 4).2.2.2.2.2.1 t4 _)⟩⟩⟩
/-- a new form: what stands -/
theorem c_newF (h : c_ok s) (h6 : (c_kds.getD 3 []).length = 6) {x y : Int} (hq : 1 ≤ (cq s).1 ∧ 6 ≤ (cq s).2) : c_RP s (c_uA (c_uA (c_new s 3 6) (cn s) 0 (c_w x)) (cn s) 1 (c_w y)) 1 6 ∧ cT (c_uA (c_uA (c_new s 3 6) (cn s) 0 (c_w x)) (cn s) 1 (c_w y)) (cn s) = 3 ∧ (∀ a l, cT (c_uA (c_uA (c_new s 3 6) (cn s) 0 (c_w x)) (cn s) 1 (c_w y)) a = 3 → (c_uA (c_uA (c_new s 3 6) (cn s) 0 (c_w x)) (cn s) 1 (c_w y)).2.1 a 4 = some l → l < cn s) ∧ (∀ i, (c_uA (c_uA (c_new s 3 6) (cn s) 0 (c_w x)) (cn s) 1 (c_w y)).1 3 i = s.1 3 i) := by
  have h59 : 59 ≤ cn s := h.2.1.2.2.2
  have k1 : c_ok (c_new s 3 6) := c_ok_new h (Or.inl (by decide)) (fun e => by cases e)
  have t1 : cT (c_new s 3 6) (cn s) = 3 := by rw [c_T_new, if_pos rfl]
  have b1 : c_bd s (c_new s 3 6) 1 6 := by
    unfold c_bd cq cn c_new
    dsimp only
    unfold cq at hq
    omega
  have q1 : c_RP s (c_new s 3 6) 1 6 := ⟨k1, c_E_new, c_tx_new h, b1⟩
  have q2 := c_RP_uf k1 t1 (j := 0) (x := x)
  have q3 := c_RP_uf q2.1 (show cT (c_uA (c_new s 3 6) (cn s) 0 (c_w x)) (cn s) = 3 from t1) (j := 1) (x := y)
  refine ⟨c_RP_tr q1 (c_RP_tr q2 q3), t1, fun a l ta hl => ?_, fun i => ?_⟩
  · have ta : cT (c_new s 3 6) a = 3 := ta
    have hl : (c_new s 3 6).2.1 a 4 = some l := hl
    by_cases e : a = cn s
    · rw [e, c_new_Rn] at hl
      cases hl
    · rw [c_new_R e] at hl
      rw [c_T_new, if_neg e] at ta
      exact (cT_lt (((h.2.2.1 a).2.2.1 ta).2.1 l hl) (by decide)).1
  · show n_updA (n_updA (c_new s 3 6).1 (cn s) 0 _) (cn s) 1 _ 3 i = _
    rw [n_ua_ne (by omega), n_ua_ne (by omega)]
    exact c_new_A (by omega)
/-- opensList -/
theorem cg36 (hd : 6 ≤ d) (h : c_ok s) (hq : 1 ≤ (cq s).1 ∧ 6 ≤ (cq s).2) : CG X Z (d + 2) 36 [kQ (some 3)] s (fun r s' => c_b01 r ∧ c_RP s s' 1 6) := by
  have t3 : cT s 3 = 6 := c_t h (3, 6) (by decide)
  have hdp := h.2.2.2.1.1
  refine c_G_of (L := [some (kQ (some 3)), none]) (by rw [nl36]; exact Nat.le_of_ble_eq_true rfl) (by rw [nl36]; rfl) ?_
  refine c_at nb36_0 (by omega) rfl ⟨3, rfl, t3, h.1 _ _, ⟨by decide, by decide⟩, fun z => ?_, fun _ => ⟨Or.inl rfl, ⟨0, rfl, Or.inl rfl⟩, c_RP_le (c_RP_rf h) (by decide) (by decide)⟩⟩
  have z : s.1 3 1 < 8 := z
  obtain ⟨n1, n2, n3, n4⟩ := c_newF (x := 2) (y := 0) h rfl hq
  have t1 : cT (c_new s 3 6) (cn s) = 3 := by rw [c_T_new, if_pos rfl]
  refine c_at nb36_11 (by omega) rfl ⟨hq, ?_⟩
  refine c_iv (d := d + 1) (a := cn s) (vs := [kQ (some (cn s)), kI 2, kI 0]) (r := [kQ (some (cn s))]) nn37 (by simp) rfl nc37 t1 (by decide) (cg37 (s := c_new s 3 6) (by omega) t1) (fun r s' hr => ?_)
  rw [hr.1, hr.2]
  generalize hS : c_uA (c_uA (c_new s 3 6) (cn s) 0 (c_w 2)) (cn s) 1 (c_w 0) = S at n1 n2 n3 n4
  have t3S := c_E_T n1.2.1 t3 (by decide)
  refine c_iv (d := d + 1) (a := 3) (vs := [kQ (some 3), kQ (some (cn s))]) (r := []) nn38 (by simp) rfl nc38 t3S (by decide) (cg38 hd n1.1 n2 n3) (fun r s2 hr => ?_)
  obtain ⟨⟨x, hx, hx2⟩, q1, q2⟩ := hr
  rw [hx]
  have m2 := c_RP_tr n1 q1
  refine ⟨⟨by omega, by omega⟩, fun _ => ?_, fun _ => ⟨Or.inl rfl, ⟨0, rfl, Or.inl rfl⟩, m2⟩⟩
  have k2 := q1.1
  have t32 : cT s2 3 = 6 := c_t k2 (3, 6) (by decide)
  have e0 : s2.2.1 3 0 = some 4 := c_r k2 (3, 0, 4) (by decide)
  have t4 : cT s2 4 = 30 := c_t k2 (4, 30) (by decide)
  have l4 : cN s2 4 = 8 := c_l k2 (4, 8) (by decide)
  have hb2 : cT s2 (cn s) = 3 := c_E_T q1.2.1 n2 (by decide)
  have hd1 : s2.1 3 1 = s.1 3 1 := (q2 1).trans (n4 1)
  have q5 := c_ok_R4 k2 (i := (s2.1 3 1).toNat) (o := some (cn s)) (fun c hc => by cases hc; exact hb2)
  refine c_at nb36_31 (by omega) rfl ⟨3, rfl, t32, 3, rfl, t32, 4, 0, e0, t4, by decide, ⟨by omega, by rw [l4]; omega, by omega⟩, fun c hc => by cases hc; exact hb2, 3, rfl, t32, 3, rfl, t32, Or.inr rfl, ⟨1, rfl, Or.inr rfl⟩, ?_⟩
  refine c_RP_tr m2 (c_RP_tr q5 (c_RP_u3 q5.1 (c_w_rg _) (fun _ => ?_)))
  show 0 ≤ c_w (s2.1 3 1 + 1) ∧ c_w (s2.1 3 1 + 1) ≤ 8
  rw [c_w_id ⟨by omega, by omega⟩]
  omega
theorem cg40 (hd : 6 ≤ d) (h : c_ok s) : CG X Z d 40 [kQ (some 3)] s (fun r s' => c_b01 r ∧ c_RP s s' 0 0) := by
  have t3 : cT s 3 = 6 := c_t h (3, 6) (by decide)
  have hdp := h.2.2.2.1.1
  refine c_G_of (L := [some (kQ (some 3))]) (by rw [nl40]; exact Nat.le_of_ble_eq_true rfl) (by rw [nl40]; rfl) ?_
  refine c_at nb40_0 hd rfl ⟨3, rfl, t3, h.1 _ _, fun z => ?_, fun _ => ⟨Or.inl rfl, ⟨0, rfl, Or.inl rfl⟩, c_RP_rf h⟩⟩
  have z : ¬ s.1 3 1 = 0 := z
  refine c_at nb40_9 hd rfl ⟨3, rfl, t3, 3, rfl, t3, Or.inr rfl, ⟨1, rfl, Or.inr rfl⟩, c_RP_u3 h (c_w_rg _) (fun _ => ?_)⟩
  rw [c_w_id ⟨by omega, by omega⟩]
  omega
end D3
