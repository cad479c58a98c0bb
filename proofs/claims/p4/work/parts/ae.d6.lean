/-! UNITS ARE MADE -/
section D6
variable {X : Nat → mm_O} {Z : Nat → List Int32} {d : Nat} {s s' : cS} {a b : Nat} {v k : Int}
/-- a cell that is not of the fixed ones -/
theorem c_dy (h : c_ok s) (ha : 25 ≤ a) : (∀ p ∈ c_tgs, p.1 ≠ a) ∧ (∀ p ∈ c_rfs, p.1 ≠ a) ∧ a ≠ 0 ∧ a ≠ 1 ∧ a ≠ 2 ∧ a ≠ 3 ∧ a ≠ 5 ∧ a ≠ 7 ∧ a ≠ 16 ∧ a ≠ 17 := by
  have h1 : ∀ p ∈ c_tgs, p.1 < 25 := by decide
  have h2 : ∀ p ∈ c_rfs, p.1 < 25 := by decide
  exact ⟨fun p hp => by have := h1 p hp; omega, fun p hp => by have := h2 p hp; omega, by omega, by omega, by omega, by omega, by omega, by omega, by omega, by omega⟩
/-- a place of a cell that is not of the fixed ones -/
theorem c_ok_Rd (h : c_ok s) (ha : 25 ≤ a) {j : Nat} {o : Option Nat} (hw : c_Wa (c_uR s a j o) a) (ho : o ≠ none) : c_RP s (c_uR s a j o) 0 0 := by
  obtain ⟨n1, n2, n3, n4, n5, n6, n7, n8, n9, n10⟩ := c_dy h ha
  have hk : (cT s a = 1 ∨ cT s a = 7 ∨ cT s a = 9) → o ≠ none := fun _ => ho
  obtain ⟨r1, r2, r3, r4⟩ := h.2.2.2.2
  have eo : ∀ x i, x ≠ a → (c_uR s a j o).2.1 x i = s.2.1 x i := fun x i hx => c_updR_ne hx
  exact ⟨c_ok_R h (fun p hp e => n2 p hp e.1) hw hk (fun e => absurd e n10) ⟨by rw [eo 3 2 (Ne.symm n6)]; exact r1, by rw [eo 3 3 (Ne.symm n6)]; exact r2, by rw [eo 7 10 (Ne.symm n8)]; exact r3, by rw [eo 7 11 (Ne.symm n8)]; exact c_rp_E (c_E_R hk) r4⟩, c_E_R hk, c_tx_rf, c_bd0⟩
theorem c_RP_ud (h : c_ok s) (ha : 25 ≤ a) {t : Nat} (hta : cT s a = t) (ht : t ≠ 1) {j : Nat} {x : Int} : c_RP s (c_uA s a j (c_w x)) 0 0 := by
  obtain ⟨n1, n2, n3, n4, n5, n6, n7, n8, n9, n10⟩ := c_dy h ha
  have e : ∀ y i, y ≠ a → (c_uA s a j (c_w x)).1 y i = s.1 y i := fun y i hy => n_ua_ne hy
  exact ⟨c_ok_u h (c_w_rg _) hta ht (c_sA_of h.2.2.2.1 (e 3 1 (Ne.symm n6)) (e 5 1 (Ne.symm n7)) (e 7 5 (Ne.symm n8)) (e 7 8 (Ne.symm n8)) (e 7 9 (Ne.symm n8)) (e 16 3 (Ne.symm n9)) rfl), c_E_2 rfl, c_tx_u ⟨n3, n4, n5⟩, c_bd0⟩
theorem c_RP_new (h : c_ok s) {t m : Nat} (ht : t < 10 ∨ t = 20) (hm : t = 20 → m < 99999) (hq : 1 ≤ (cq s).1 ∧ m ≤ (cq s).2) : c_RP s (c_new s t m) 1 m := by
  refine ⟨c_ok_new h ht hm, c_E_new, c_tx_new h, ?_⟩
  unfold c_bd cq cn c_new
  dsimp only
  unfold cq at hq
  omega
/-- Bytes' constructor -/
theorem cg1 (hd : 6 ≤ d) (h : c_ok s) (ha : 25 ≤ a) (ht : cT s a = 1) (hA : s.1 a 1 = 0) (hk : 0 ≤ k ∧ k ≤ 600) (hq : 1 ≤ (cq s).1 ∧ k.toNat ≤ (cq s).2) : CG X Z d 1 [kQ (some a), kI k] s (fun r s' => r = .inl none ∧ c_RP s s' 1 k.toNat ∧ s'.2.1 a 0 = some (cn s) ∧ s' = c_uR (c_new s 20 k.toNat) a 0 (some (cn s))) := by
  have hmx : (if c_w k < c_w 0 then c_w 0 else c_w k) = k := by
    rw [c_w_id (x := k) ⟨by omega, by omega⟩, show c_w 0 = 0 from by decide, if_neg (by omega)]
  have q1 := c_RP_new h (t := 20) (m := k.toNat) (Or.inr rfl) (fun _ => by omega) hq
  have han : a ≠ cn s := c_lt_n ht (by decide)
  have t1 : cT (c_new s 20 k.toNat) a = 1 := c_new_T ht (by decide)
  have t2 : cT (c_new s 20 k.toNat) (cn s) = 20 := by rw [c_T_new, if_pos rfl]
  have hw : c_Wa (c_uR (c_new s 20 k.toNat) a 0 (some (cn s))) a := by
    refine ⟨fun _ c hc => ?_, fun q => ?_, fun q => ?_, fun q => ?_, fun q => ?_, fun q => ?_, fun q => ?_⟩
    · rw [c_R_at, if_pos ⟨rfl, rfl⟩] at hc
      cases hc
      refine ⟨t2, ?_⟩
      show 0 ≤ (c_new s 20 k.toNat).1 a 1 ∧ (c_new s 20 k.toNat).1 a 1 ≤ _
      rw [c_new_A han, hA]
      omega
    all_goals (rw [show cT (c_uR (c_new s 20 k.toNat) a 0 (some (cn s))) a = 1 from t1] at q; exact absurd q (by decide))
  have q2 := c_ok_Rd q1.1 ha hw (by simp)
  refine c_G_of (L := [some (kQ (some a)), some (kI k)]) (by rw [nl1]; exact Nat.le_of_ble_eq_true rfl) (by rw [nl1]; rfl) ?_
  refine c_at nb1_0 hd rfl ⟨by simp, by simp, ?_⟩
  show wc Z _ _ _ _ _ [kI (if c_w k < c_w 0 then c_w 0 else c_w k), kQ (some a)] s
  rw [hmx]
  refine ⟨⟨by omega, by omega⟩, hq, a, rfl, t1, rfl, rfl, c_RP_tr q1 q2, ?_, rfl⟩
  rw [c_R_at, if_pos ⟨rfl, rfl⟩]
/-- symbolsOf: the numbers lie in a new row -/
theorem cg50 (hd : 6 ≤ d) (h : c_ok s) (hw : c_few s) (ha : cT s a = 3) (hz : s.1 a 2 ≤ 4) (hq : 1 ≤ (cq s).1 ∧ 4 ≤ (cq s).2) : CG X Z d 50 [kQ (some a)] s (fun r s' => (∃ p, r = .inl (some (kQ (some p))) ∧ cT s' p = 20) ∧ c_RP s s' 1 4 ∧ (∀ x j, cT s x ≠ 99 → s'.2.1 x j = s.2.1 x j) ∧ (∀ x j, cT s x ≠ 99 → s'.1 x j = s.1 x j)) := by
  unfold c_few at hw
  have hg := h.1 a 2
  generalize hn : (if c_w (s.1 a 2) < c_w 0 then c_w 0 else c_w (s.1 a 2)) = n
  have hn4 : 0 ≤ n ∧ n ≤ 4 := by
    rw [← hn, c_w_id hg, show c_w 0 = 0 from by decide]
    split <;> omega
  have q1 := c_RP_new h (t := 20) (m := n.toNat) (Or.inr rfl) (fun _ => by omega) ⟨hq.1, by omega⟩
  have t2 : cT (c_new s 20 n.toNat) (cn s) = 20 := by rw [c_T_new, if_pos rfl]
  have h59 : 59 ≤ cn s := h.2.1.2.2.2
  have hT : ∀ x, cT s x ≠ 99 → x ≠ cn s := fun x hx => c_lt_n rfl hx
  have hl : ∀ (m : Nat) (t : cS) (o : Option Nat) (j : Int), c_RP s t 1 4 → t.2 = (c_new s 20 n.toNat).2 → (∀ x i, x ≠ cn s → t.1 x i = (c_new s 20 n.toNat).1 x i) → c_fo s o → c_far s o m → (0 ≤ j ∧ j + m ≤ 1000000000) → CP X Z d 50 18 [some (kQ (some a)), some (kQ (some (cn s))), some (kQ o), some (kI j)] [] t (fun r s' => (∃ p, r = .inl (some (kQ (some p))) ∧ cT s' p = 20) ∧ c_RP s s' 1 4 ∧ (∀ x j, cT s x ≠ 99 → s'.2.1 x j = s.2.1 x j) ∧ (∀ x j, cT s x ≠ 99 → s'.1 x j = s.1 x j)) := by
    intro m
    induction m with
    | zero =>
      intro t o j ht e2 eA ho hf hj
      have hnn : o = none := by
        cases o with
        | none => rfl
        | some b =>
          have h1 := hf b rfl
          have h2 := (cT_lt (ho b rfl) (by decide)).1
          unfold cn at h1
          omega
      have tp : cT t (cn s) = 20 := by rw [c_T2 e2]; exact t2
      have np : cN t (cn s) = n.toNat := by rw [c_N2 e2, c_N_new, if_pos rfl]
      have h46 : CP X Z d 50 46 [some (kQ (some a)), some (kQ (some (cn s))), some (kQ o), some (kI j)] [] t (fun r s' => (∃ p, r = .inl (some (kQ (some p))) ∧ cT s' p = 20) ∧ c_RP s s' 1 4 ∧ (∀ x j, cT s x ≠ 99 → s'.2.1 x j = s.2.1 x j) ∧ (∀ x j, cT s x ≠ 99 → s'.1 x j = s.1 x j)) := c_at nb50_46 hd rfl ⟨⟨_, rfl, tp⟩, ht, fun x i hx => by rw [e2]; exact c_new_R (hT x hx), fun x i hx => by rw [eA x i (hT x hx)]; exact c_new_A (hT x hx)⟩
      exact c_at nb50_18 hd rfl ⟨cn s, rfl, Or.inl tp, ⟨by omega, by omega⟩, ⟨by rw [np]; omega, by rw [np]; omega⟩, fun _ => h46, fun _ => ⟨fun _ => h46, fun z => absurd hnn z⟩⟩
    | succ m ih =>
      intro t o j ht e2 eA ho hf hj
      have tp : cT t (cn s) = 20 := by rw [c_T2 e2]; exact t2
      have np : cN t (cn s) = n.toNat := by rw [c_N2 e2, c_N_new, if_pos rfl]
      have h46 : CP X Z d 50 46 [some (kQ (some a)), some (kQ (some (cn s))), some (kQ o), some (kI j)] [] t (fun r s' => (∃ p, r = .inl (some (kQ (some p))) ∧ cT s' p = 20) ∧ c_RP s s' 1 4 ∧ (∀ x j, cT s x ≠ 99 → s'.2.1 x j = s.2.1 x j) ∧ (∀ x j, cT s x ≠ 99 → s'.1 x j = s.1 x j)) := c_at nb50_46 hd rfl ⟨⟨_, rfl, tp⟩, ht, fun x i hx => by rw [e2]; exact c_new_R (hT x hx), fun x i hx => by rw [eA x i (hT x hx)]; exact c_new_A (hT x hx)⟩
      refine c_at nb50_18 hd rfl ⟨cn s, rfl, Or.inl tp, ⟨by omega, by omega⟩, ⟨by rw [np]; omega, by rw [np]; omega⟩, fun _ => h46, fun z => ⟨fun _ => h46, fun z2 => ?_⟩⟩
      have z : ¬ (cN t (cn s) : Int) ≤ j := z
      cases o with
      | none => exact absurd rfl z2
      | some b =>
        have tb := ho b rfl
        have tb2 : cT t b = 3 := c_E_T ht.2.1 tb (by decide)
        have q2 := c_RP_ud ht.1 (a := cn s) (by omega) tp (by decide) (j := j.toNat) (x := t.1 b 1)
        have hb : b ≠ cn s := c_lt_n tb (by decide)
        have e5 : t.2.1 b 5 = s.2.1 b 5 := by rw [e2]; exact c_new_R hb
        refine ⟨b, rfl, tb2, cn s, rfl, tp, ⟨hj.1, by omega, by omega⟩, b, rfl, tb2, ?_⟩
        have := ih (c_uA t (cn s) j.toNat (c_w (t.1 b 1))) (s.2.1 b 5) (j + 1) (c_RP_tr ht q2) e2 (fun x i hx => by
          show n_updA t.1 (cn s) _ _ x i = _
          rw [n_ua_ne hx]
          exact eA x i hx) (c_next h tb).1 (c_far_n h tb hf) (by omega)
        rw [← e5] at this
        exact this
  refine c_G_of (L := [some (kQ (some a)), none, none, none]) (by rw [nl50]; exact Nat.le_of_ble_eq_true rfl) (by rw [nl50]; rfl) ?_
  refine c_at nb50_0 hd rfl ⟨a, rfl, ha, by simp, ?_⟩
  show wc Z _ _ _ _ _ [kI (if c_w (s.1 a 2) < c_w 0 then c_w 0 else c_w (s.1 a 2))] s
  rw [hn]
  refine ⟨⟨by omega, by omega⟩, ⟨hq.1, by omega⟩, a, rfl, c_new_T ha (by decide), ?_⟩
  have e3 : (c_new s 20 n.toNat).2.1 a 3 = s.2.1 a 3 := c_new_R (c_lt_n ha (by decide))
  have := hl (cn s) (c_new s 20 n.toNat) (s.2.1 a 3) 0 (c_RP_le q1 (Nat.le_refl _) (by omega)) rfl (fun _ _ _ => rfl) ((h.2.2.1 a).2.2.1 ha).1 (fun b _ => by omega) (by omega)
  rw [← e3] at this
  exact this
end D6
