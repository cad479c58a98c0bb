/-! THE CLASS READS -/
def c_RP (s s' : cS) (x y : Nat) : Prop := c_ok s' ∧ c_E s s' ∧ c_tx s s' ∧ c_bd s s' x y
def c_b01 (r : cA) : Prop := ∃ x, r = .inl (some (kI x)) ∧ (x = 0 ∨ x = 1)
section D2
variable {X : Nat → mm_O} {Z : Nat → List Int32} {d : Nat} {s s' : cS} {a b : Nat} {v k : Int}
theorem c_RP_rf (h : c_ok s) : c_RP s s 0 0 := ⟨h, c_E_rf, c_tx_rf, by unfold c_bd; omega⟩
theorem c_RP_tr {s2 : cS} {x y x2 y2 : Nat} (h : c_RP s s' x y) (g : c_RP s' s2 x2 y2) : c_RP s s2 (x + x2) (y + y2) := ⟨g.1, c_E_tr h.2.1 g.2.1, c_tx_tr h.2.2.1 g.2.2.1, c_bd_tr h.2.2.2 g.2.2.2⟩
theorem c_RP_le {x y x2 y2 : Nat} (h : c_RP s s' x y) (hx : x ≤ x2) (hy : y ≤ y2) : c_RP s s' x2 y2 := ⟨h.1, h.2.1, h.2.2.1, by have := h.2.2.2; unfold c_bd at *; omega⟩
theorem cg31 (hd : 6 ≤ d) (hk : n_rng k) : CG X Z d 31 [kI k] s (fun r s' => c_b01 r ∧ s' = s) := by
  have h17 : ∀ x : Int, (x = 0 ∨ x = 1) → CP X Z d 31 17 [some (kI k)] [kI x] s (fun r s' => c_b01 r ∧ s' = s) := fun x hx => c_at nb31_17 hd rfl ⟨hx, ⟨x, rfl, hx⟩, rfl⟩
  have h16 : CP X Z d 31 16 [some (kI k)] [] s (fun r s' => c_b01 r ∧ s' = s) := c_at nb31_16 hd rfl (h17 0 (Or.inl rfl))
  refine c_G_of (L := [some (kI k)]) (by rw [nl31]; exact Nat.le_of_ble_eq_true rfl) (by rw [nl31]; rfl) ?_
  exact c_at nb31_0 hd rfl ⟨hk, ⟨by decide, by decide⟩, fun _ => h16, fun _ => ⟨hk, ⟨by decide, by decide⟩, fun _ => h16, fun _ => h17 1 (Or.inr rfl)⟩⟩
theorem cg33 (hd : 6 ≤ d) (hk : n_rng k) : CG X Z d 33 [kI k] s (fun r s' => c_b01 r ∧ s' = s) := by
  have h17 : ∀ x : Int, (x = 0 ∨ x = 1) → CP X Z d 33 17 [some (kI k)] [kI x] s (fun r s' => c_b01 r ∧ s' = s) := fun x hx => c_at nb33_17 hd rfl ⟨hx, ⟨x, rfl, hx⟩, rfl⟩
  have h16 : CP X Z d 33 16 [some (kI k)] [] s (fun r s' => c_b01 r ∧ s' = s) := c_at nb33_16 hd rfl (h17 0 (Or.inl rfl))
  refine c_G_of (L := [some (kI k)]) (by rw [nl33]; exact Nat.le_of_ble_eq_true rfl) (by rw [nl33]; rfl) ?_
  exact c_at nb33_0 hd rfl ⟨hk, ⟨by decide, by decide⟩, fun _ => h16, fun _ => ⟨hk, ⟨by decide, by decide⟩, fun _ => h16, fun _ => h17 1 (Or.inr rfl)⟩⟩
theorem cg42 (hd : 6 ≤ d) (hk : n_rng k) : CG X Z d 42 [kI k] s (fun r s' => c_b01 r ∧ s' = s) := by
  have h35 : ∀ x : Int, (x = 0 ∨ x = 1) → CP X Z d 42 35 [some (kI k)] [kI x] s (fun r s' => c_b01 r ∧ s' = s) := fun x hx => c_at nb42_35 hd rfl ⟨hx, ⟨x, rfl, hx⟩, rfl⟩
  have h30 : CP X Z d 42 30 [some (kI k)] [] s (fun r s' => c_b01 r ∧ s' = s) := c_at nb42_30 hd rfl (h35 1 (Or.inr rfl))
  have h34 : CP X Z d 42 34 [some (kI k)] [] s (fun r s' => c_b01 r ∧ s' = s) := c_at nb42_34 hd rfl (h35 0 (Or.inl rfl))
  refine c_G_of (L := [some (kI k)]) (by rw [nl42]; exact Nat.le_of_ble_eq_true rfl) (by rw [nl42]; rfl) ?_
  exact c_at nb42_0 hd rfl ⟨hk, ⟨by decide, by decide⟩, fun _ => h30, fun _ => ⟨hk, ⟨by decide, by decide⟩, fun _ => h30, fun _ => ⟨hk, ⟨by decide, by decide⟩, fun _ => h30, fun _ => ⟨hk, ⟨by decide, by decide⟩, fun _ => h30, fun _ => ⟨hk, ⟨by decide, by decide⟩, fun _ => h34, fun _ => h30⟩⟩⟩⟩⟩
theorem cg35 (hd : 6 ≤ d) : CG X Z d 35 [kI k] s (fun r s' => c_b01 r ∧ s' = s) := by
  have h15 : ∀ x : Int, (x = 0 ∨ x = 1) → CP X Z d 35 15 [some (kI k)] [kI x] s (fun r s' => c_b01 r ∧ s' = s) := fun x hx => c_at nb35_15 hd rfl ⟨hx, ⟨x, rfl, hx⟩, rfl⟩
  refine c_G_of (L := [some (kI k)]) (by rw [nl35]; exact Nat.le_of_ble_eq_true rfl) (by rw [nl35]; rfl) ?_
  refine c_at nb35_0 hd rfl ⟨⟨?_, ?_⟩, ⟨by decide, by decide⟩, fun _ => c_at nb35_14 hd rfl (h15 0 (Or.inl rfl)), fun _ => h15 1 (Or.inr rfl)⟩
  · show -2147483648 ≤ k % 256; omega
  · show k % 256 < 2147483648; omega
theorem cg34 (hd : 6 ≤ d) (ha : cT s a = 3) (hg : c_rg s) : CG X Z (d + 1) 34 [kQ (some a)] s (fun r s' => c_b01 r ∧ s' = s) := by
  have h23 : ∀ x : Int, (x = 0 ∨ x = 1) → CP X Z (d + 1) 34 23 [some (kQ (some a))] [kI x] s (fun r s' => c_b01 r ∧ s' = s) := fun x hx => c_at nb34_23 (by omega) rfl ⟨hx, ⟨x, rfl, hx⟩, rfl⟩
  have h22 : CP X Z (d + 1) 34 22 [some (kQ (some a))] [] s (fun r s' => c_b01 r ∧ s' = s) := c_at nb34_22 (by omega) rfl (h23 0 (Or.inl rfl))
  refine c_G_of (L := [some (kQ (some a))]) (by rw [nl34]; exact Nat.le_of_ble_eq_true rfl) (by rw [nl34]; rfl) ?_
  refine c_at nb34_0 (by omega) rfl ⟨a, rfl, ha, hg _ _, ⟨by decide, by decide⟩, fun _ => h22, fun _ => ⟨a, rfl, ha, ?_⟩⟩
  refine c_is (vs := [kI (s.1 a 1)]) (r := []) nn35 (by simp) (cg35 hd) (fun r s' hr => ?_)
  obtain ⟨⟨x, hx, hx2⟩, hs⟩ := hr
  rw [hx, hs]
  exact ⟨⟨by omega, by omega⟩, fun _ => h22, fun _ => h23 1 (Or.inr rfl)⟩
theorem cg37 (hd : 6 ≤ d) (ha : cT s a = 3) : CG X Z d 37 [kQ (some a), kI k, kI v] s (fun r s' => r = .inl none ∧ s' = c_uA (c_uA s a 0 (c_w k)) a 1 (c_w v)) := by
  refine c_G_of (L := [some (kQ (some a)), some (kI k), some (kI v)]) (by rw [nl37]; exact Nat.le_of_ble_eq_true rfl) (by rw [nl37]; rfl) ?_
  exact c_at nb37_0 hd rfl ⟨by simp, a, rfl, ha, a, rfl, ha, rfl, rfl, rfl⟩
/-- a form's place changes -/
theorem c_ok_Rf (h : c_ok s) (ha : cT s a = 3) {j : Nat} (hj : j = 3 ∨ j = 4 ∨ j = 5) (hb : cT s b = 3) (hlt : j = 5 → a < b) : c_RP s (c_uR s a j (some b)) 0 0 := by
  obtain ⟨n0, n1, n2, n3, n7, n17, nt⟩ := c_fn h ha
  have hk : (cT s a = 1 ∨ cT s a = 7 ∨ cT s a = 9) → some b ≠ none := fun _ => by simp
  obtain ⟨w1, w2, w3, w4, w5, w6, w7⟩ := h.2.2.1 a
  obtain ⟨r1, r2, r3, r4⟩ := h.2.2.2.2
  have ea : ∀ i, (c_uR s a j (some b)).2.1 a i = if i = j then some b else s.2.1 a i := fun i => c_updR_eq
  have eo : ∀ x i, x ≠ a → (c_uR s a j (some b)).2.1 x i = s.2.1 x i := fun x i hx => c_updR_ne hx
  have fo : ∀ i, c_fo s (s.2.1 a i) → c_fo s ((c_uR s a j (some b)).2.1 a i) := fun i hi => by
    rw [ea]
    split
    · intro c hc
      cases hc
      exact hb
    · exact hi
  refine ⟨c_ok_R h (fun p hp e => ?_) ⟨fun q => ?_, fun q => ?_, fun _ => ⟨fo 3 (w3 ha).1, fo 4 (w3 ha).2.1, fo 5 (w3 ha).2.2.1, fun c hc => ?_⟩, fun q => ?_, fun q => ?_, fun q => ?_, fun q => ?_⟩ hk (fun _ => by simp) ⟨by rw [eo 3 2 (Ne.symm n3)]; exact r1, by rw [eo 3 3 (Ne.symm n3)]; exact r2, by rw [eo 7 10 (Ne.symm n7)]; exact r3, ?_⟩, c_E_R hk, c_tx_rf, by unfold c_bd; exact ⟨Nat.le_refl _, Nat.le_refl _, Nat.le_refl _⟩⟩
  · have hr : ∀ p ∈ c_rfs, (p.1 ∈ c_tgs.map (·.1)) := by decide
    obtain ⟨q, q1, q2⟩ := List.mem_map.mp (hr p hp)
    exact nt q q1 (q2.trans e.1)
  · rw [show cT (c_uR s a j (some b)) a = 3 from ha] at q; exact absurd q (by decide)
  · rw [show cT (c_uR s a j (some b)) a = 3 from ha] at q; exact absurd q (by decide)
  · rw [ea] at hc
    split at hc
    · rename_i e5
      cases hc
      exact hlt e5.symm
    · exact (w3 ha).2.2.2 c hc
  · rw [show cT (c_uR s a j (some b)) a = 3 from ha] at q; exact absurd q (by decide)
  · rw [show cT (c_uR s a j (some b)) a = 3 from ha] at q; exact absurd q (by decide)
  · rw [show cT (c_uR s a j (some b)) a = 3 from ha] at q; exact absurd q (by decide)
  · rw [show cT (c_uR s a j (some b)) a = 3 from ha] at q; exact absurd q (by decide)
  · rw [eo 7 11 (Ne.symm n7)]
    exact c_rp_E (c_E_R hk) r4
theorem c_RP_uf (h : c_ok s) (ha : cT s a = 3) {j : Nat} {x : Int} : c_RP s (c_uA s a j (c_w x)) 0 0 := by
  obtain ⟨n0, n1, n2, -⟩ := c_fn h ha
  exact ⟨c_ok_uf h ha, c_E_2 rfl, c_tx_u ⟨n0, n1, n2⟩, by unfold c_bd; exact ⟨Nat.le_refl _, Nat.le_refl _, Nat.le_refl _⟩⟩
theorem c_A3 (h : c_ok s) (ha : cT s a = 3) {j i : Nat} {x : Int} : (c_uA s a j x).1 3 i = s.1 3 i := by
  show n_updA s.1 a j x 3 i = _
  rw [n_ua_ne (Ne.symm (c_fn h ha).2.2.2.1)]
/-- append -/
theorem cg39 (hd : 6 ≤ d) (h : c_ok s) (ha : cT s a = 3) (hb : cT s b = 3) (hl : ∀ l, s.2.1 a 4 = some l → l < b) : CG X Z d 39 [kQ (some a), kQ (some b)] s (fun r s' => r = .inl none ∧ c_RP s s' 0 0 ∧ (∀ i, s'.1 3 i = s.1 3 i)) := by
  have h23 : ∀ t, c_RP s t 0 0 → (∀ i, t.1 3 i = s.1 3 i) → CP X Z d 39 23 [some (kQ (some a)), some (kQ (some b))] [] t (fun r s' => r = .inl none ∧ c_RP s s' 0 0 ∧ (∀ i, s'.1 3 i = s.1 3 i)) := by
    intro t ht h3
    have ta := c_E_T ht.2.1 ha (by decide)
    have tb := c_E_T ht.2.1 hb (by decide)
    have q1 := c_ok_Rf ht.1 ta (j := 4) (by decide) tb (fun e => by cases e)
    have ta1 : cT (c_uR t a 4 (some b)) a = 3 := ta
    refine c_at nb39_23 hd rfl ⟨a, rfl, ta, a, rfl, ta, a, rfl, ta, rfl, rfl, c_RP_tr ht (c_RP_tr q1 (c_RP_uf q1.1 ta1)), fun i => ?_⟩
    rw [← h3 i]
    exact c_A3 q1.1 ta1
  refine c_G_of (L := [some (kQ (some a)), some (kQ (some b))]) (by rw [nl39]; exact Nat.le_of_ble_eq_true rfl) (by rw [nl39]; rfl) ?_
  refine c_at nb39_0 hd rfl ⟨a, rfl, ha, fun z => ?_, fun z => ⟨a, rfl, ha, h23 _ (c_ok_Rf h ha (by decide) hb (fun e => by cases e)) (fun _ => rfl)⟩⟩
  cases hl4 : s.2.1 a 4 with
  | none => exact absurd hl4 z
  | some l =>
    have tl := ((h.2.2.1 a).2.2.1 ha).2.1 l hl4
    exact c_at nb39_15 hd rfl ⟨a, rfl, ha, l, hl4, tl, h23 _ (c_ok_Rf h tl (by decide) hb (fun _ => hl l hl4)) (fun _ => rfl)⟩
end D2
