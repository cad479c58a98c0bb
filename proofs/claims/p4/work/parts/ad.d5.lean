/-! THE CLASS LOOKS AT FORMS -/
section D5
variable {X : Nat → mm_O} {Z : Nat → List Int32} {d : Nat} {s s' : cS} {a b : Nat} {v k : Int}
theorem c_next (h : c_ok s) (ha : cT s a = 3) : c_fo s (s.2.1 a 5) ∧ (∀ b, s.2.1 a 5 = some b → a < b ∧ b < cn s) := by
  obtain ⟨-, -, w3, w4⟩ := (h.2.2.1 a).2.2.1 ha
  exact ⟨w3, fun b hb => ⟨w4 b hb, (cT_lt (w3 b hb) (by decide)).1⟩⟩
/-- how far a form is from the last cell -/
def c_far (s : cS) (o : Option Nat) (m : Nat) : Prop := ∀ b, o = some b → cn s ≤ b + m
theorem c_far_n (h : c_ok s) {m : Nat} (ha : cT s a = 3) (hf : c_far s (some a) (m + 1)) : c_far s (s.2.1 a 5) m := fun b hb => by
  have := (c_next h ha).2 b hb
  have := hf a rfl
  omega
theorem c_l45 (hd : 6 ≤ d) (h : c_ok s) (hk : n_rng k) : ∀ (m : Nat) (o : Option Nat) (j : Int), c_fo s o → c_far s o m → (0 ≤ j ∧ j + m ≤ 1000000000) → CP X Z d 45 7 [some (kQ (some a)), some (kI k), some (kQ o), some (kI j)] [] s (fun r s' => (∃ o, r = .inl (some (kQ o)) ∧ c_fo s o) ∧ s' = s) := by
  intro m
  induction m with
  | zero =>
    intro o j ho hf hj
    have hn : o = none := by
      cases o with
      | none => rfl
      | some b =>
        have h1 := hf b rfl
        have h2 := (cT_lt (ho b rfl) (by decide)).1
        unfold cn at h1
        omega
    have h27 : CP X Z d 45 27 [some (kQ (some a)), some (kI k), some (kQ o), some (kI j)] [] s (fun r s' => (∃ o, r = .inl (some (kQ o)) ∧ c_fo s o) ∧ s' = s) := c_at nb45_27 hd rfl ⟨⟨o, rfl, ho⟩, rfl⟩
    exact c_at nb45_7 hd rfl ⟨⟨by omega, by omega⟩, hk, fun _ => h27, fun _ => ⟨fun _ => h27, fun z => absurd hn z⟩⟩
  | succ m ih =>
    intro o j ho hf hj
    have h27 : CP X Z d 45 27 [some (kQ (some a)), some (kI k), some (kQ o), some (kI j)] [] s (fun r s' => (∃ o, r = .inl (some (kQ o)) ∧ c_fo s o) ∧ s' = s) := c_at nb45_27 hd rfl ⟨⟨o, rfl, ho⟩, rfl⟩
    refine c_at nb45_7 hd rfl ⟨⟨by omega, by omega⟩, hk, fun _ => h27, fun _ => ⟨fun _ => h27, fun z => ?_⟩⟩
    cases o with
    | none => exact absurd rfl z
    | some b =>
      have tb := ho b rfl
      exact ⟨b, rfl, tb, ih _ (j + 1) (c_next h tb).1 (c_far_n h tb hf) (by omega)⟩
/-- the cells are not that many -/
def c_few (s : cS) : Prop := cn s ≤ 1000000
theorem cg45 (hd : 6 ≤ d) (h : c_ok s) (hw : c_few s) (ha : cT s a = 3) (hk : n_rng k) : CG X Z d 45 [kQ (some a), kI k] s (fun r s' => (∃ o, r = .inl (some (kQ o)) ∧ c_fo s o) ∧ s' = s) := by
  unfold c_few at hw
  refine c_G_of (L := [some (kQ (some a)), some (kI k), none, none]) (by rw [nl45]; exact Nat.le_of_ble_eq_true rfl) (by rw [nl45]; rfl) ?_
  refine c_at nb45_0 hd rfl ⟨a, rfl, ha, ?_⟩
  exact c_l45 hd h hk (cn s) _ 0 ((h.2.2.1 a).2.2.1 ha).1 (fun b _ => by omega) (by omega)
theorem cg47 (hd : 6 ≤ d) (hk : n_rng k) : CG X Z d 47 [kI k] s (fun r s' => c_b01 r ∧ s' = s) := by
  have h49 : ∀ x : Int, (x = 0 ∨ x = 1) → CP X Z d 47 49 [some (kI k)] [kI x] s (fun r s' => c_b01 r ∧ s' = s) := fun x hx => c_at nb47_49 hd rfl ⟨hx, ⟨x, rfl, hx⟩, rfl⟩
  have h44 : CP X Z d 47 44 [some (kI k)] [] s (fun r s' => c_b01 r ∧ s' = s) := c_at nb47_44 hd rfl (h49 1 (Or.inr rfl))
  have h48 : CP X Z d 47 48 [some (kI k)] [] s (fun r s' => c_b01 r ∧ s' = s) := c_at nb47_48 hd rfl (h49 0 (Or.inl rfl))
  refine c_G_of (L := [some (kI k)]) (by rw [nl47]; exact Nat.le_of_ble_eq_true rfl) (by rw [nl47]; rfl) ?_
  exact c_at nb47_0 hd rfl ⟨hk, ⟨by decide, by decide⟩, fun _ => h44, fun _ => ⟨hk, ⟨by decide, by decide⟩, fun _ => h44, fun _ => ⟨hk, ⟨by decide, by decide⟩, fun _ => h44, fun _ => ⟨hk, ⟨by decide, by decide⟩, fun _ => h44, fun _ => ⟨hk, ⟨by decide, by decide⟩, fun _ => h44, fun _ => ⟨hk, ⟨by decide, by decide⟩, fun _ => h44, fun _ => ⟨hk, ⟨by decide, by decide⟩, fun _ => h48, fun _ => h44⟩⟩⟩⟩⟩⟩⟩
theorem c_l49 (hd : 6 ≤ d) (h : c_ok s) (ha : cT s a = 3) : ∀ (m : Nat) (o : Option Nat), c_fo s o → c_far s o m → CP X Z d 49 5 [some (kQ (some a)), some (kQ o)] [] s (fun r s' => c_b01 r ∧ s' = s) := by
  intro m
  induction m with
  | zero =>
    intro o ho hf
    have hn : o = none := by
      cases o with
      | none => rfl
      | some b =>
        have h1 := hf b rfl
        have h2 := (cT_lt (ho b rfl) (by decide)).1
        unfold cn at h1
        omega
    exact c_at nb49_5 hd rfl ⟨fun _ => c_at nb49_38 hd rfl ⟨Or.inl rfl, ⟨0, rfl, Or.inl rfl⟩, rfl⟩, fun z => absurd hn z⟩
  | succ m ih =>
    intro o ho hf
    refine c_at nb49_5 hd rfl ⟨fun _ => c_at nb49_38 hd rfl ⟨Or.inl rfl, ⟨0, rfl, Or.inl rfl⟩, rfl⟩, fun z => ?_⟩
    cases o with
    | none => exact absurd rfl z
    | some b =>
      have tb := ho b rfl
      have h30 : CP X Z d 49 30 [some (kQ (some a)), some (kQ (some b))] [] s (fun r s' => c_b01 r ∧ s' = s) := c_at nb49_30 hd rfl ⟨b, rfl, tb, ih _ (c_next h tb).1 (c_far_n h tb hf)⟩
      exact ⟨b, rfl, tb, h.1 _ _, ⟨by decide, by decide⟩, fun _ => h30, fun _ => ⟨b, rfl, tb, a, rfl, ha, h.1 _ _, h.1 _ _, fun _ => h30, fun _ => ⟨Or.inr rfl, ⟨1, rfl, Or.inr rfl⟩, rfl⟩⟩⟩
theorem cg49 (hd : 6 ≤ d) (h : c_ok s) (ha : cT s a = 3) : CG X Z d 49 [kQ (some a)] s (fun r s' => c_b01 r ∧ s' = s) := by
  refine c_G_of (L := [some (kQ (some a)), none]) (by rw [nl49]; exact Nat.le_of_ble_eq_true rfl) (by rw [nl49]; rfl) ?_
  exact c_at nb49_0 hd rfl ⟨a, rfl, ha, c_l49 hd h ha (cn s) _ (c_next h ha).1 (fun b _ => by omega)⟩
theorem c_l48 (hd : 6 ≤ d) (h : c_ok s) (hz : s.1 a 2 ≤ 4) : ∀ (m : Nat) (o : Option Nat), c_fo s o → c_far s o m → CP X Z (d + 2) 48 23 [some (kQ (some a)), some (kQ o)] [] s (fun r s' => c_b01 r ∧ s' = s ∧ (r = .inl (some (kI 1)) → s.1 a 2 ≤ 4)) := by
  intro m
  induction m with
  | zero =>
    intro o ho hf
    have hn : o = none := by
      cases o with
      | none => rfl
      | some b =>
        have h1 := hf b rfl
        have h2 := (cT_lt (ho b rfl) (by decide)).1
        unfold cn at h1
        omega
    exact c_at nb48_23 (by omega) rfl ⟨fun _ => c_at nb48_51 (by omega) rfl ⟨Or.inr rfl, ⟨1, rfl, Or.inr rfl⟩, rfl, fun _ => hz⟩, fun z => absurd hn z⟩
  | succ m ih =>
    intro o ho hf
    refine c_at nb48_23 (by omega) rfl ⟨fun _ => c_at nb48_51 (by omega) rfl ⟨Or.inr rfl, ⟨1, rfl, Or.inr rfl⟩, rfl, fun _ => hz⟩, fun z => ?_⟩
    cases o with
    | none => exact absurd rfl z
    | some b =>
      have tb := ho b rfl
      have h41 : CP X Z (d + 2) 48 41 [some (kQ (some a)), some (kQ (some b))] [] s (fun r s' => c_b01 r ∧ s' = s ∧ (r = .inl (some (kI 1)) → s.1 a 2 ≤ 4)) := c_at nb48_41 (by omega) rfl ⟨Or.inl rfl, ⟨0, rfl, Or.inl rfl⟩, rfl, fun _ => hz⟩
      refine c_iv (d := d + 1) (a := b) (vs := [kQ (some b)]) (r := []) nn34 (by simp) rfl nc34 tb (by decide) (cg34 hd tb h.1) (fun r s' hr => ?_)
      obtain ⟨⟨x, hx, hx2⟩, hs⟩ := hr
      rw [hx, hs]
      refine ⟨⟨by omega, by omega⟩, fun _ => h41, fun _ => ?_⟩
      refine c_is (d := d + 1) (vs := [kQ (some b)]) (r := []) nn49 (by simp) (cg49 (by omega) h tb) (fun r s' hr => ?_)
      obtain ⟨⟨y, hy, hy2⟩, hs⟩ := hr
      rw [hy, hs]
      exact ⟨⟨by omega, by omega⟩, fun _ => c_at nb48_43 (by omega) rfl ⟨b, rfl, tb, ih _ (c_next h tb).1 (c_far_n h tb hf)⟩, fun _ => h41⟩
theorem cg48 (hd : 6 ≤ d) (h : c_ok s) (ha : cT s a = 3) : CG X Z (d + 2) 48 [kQ (some a)] s (fun r s' => c_b01 r ∧ s' = s ∧ (r = .inl (some (kI 1)) → s.1 a 2 ≤ 4)) := by
  have h16 : CP X Z (d + 2) 48 16 [some (kQ (some a)), none] [] s (fun r s' => c_b01 r ∧ s' = s ∧ (r = .inl (some (kI 1)) → s.1 a 2 ≤ 4)) := c_at nb48_16 (by omega) rfl ⟨Or.inl rfl, ⟨0, rfl, Or.inl rfl⟩, rfl, fun e => by simp at e⟩
  refine c_G_of (L := [some (kQ (some a)), none]) (by rw [nl48]; exact Nat.le_of_ble_eq_true rfl) (by rw [nl48]; rfl) ?_
  refine c_at nb48_0 (by omega) rfl ⟨a, rfl, ha, h.1 _ _, ⟨by decide, by decide⟩, fun _ => h16, fun _ => ⟨a, rfl, ha, h.1 _ _, ⟨by decide, by decide⟩, fun z => ?_, fun _ => h16⟩⟩
  exact c_at nb48_18 (by omega) rfl ⟨a, rfl, ha, c_l48 hd h z (cn s) _ ((h.2.2.1 a).2.2.1 ha).1 (fun b _ => by omega)⟩
/-- latest of the shelf -/
theorem cg59 (hd : 6 ≤ d) (h : c_ok s) (hk : n_rng k) (hv : n_rng v) : CG X Z d 59 [kQ (some 5), kI k, kI v] s (fun r s' => (∃ o, r = .inl (some (kQ o)) ∧ ∀ u, o = some u → c_un s u) ∧ s' = s) := by
  have t5 := c_t h (5, 8) (by decide)
  have e6 : s.2.1 5 0 = some 6 := c_r h (5, 0, 6) (by decide)
  have t6 := c_t h (6, 31) (by decide)
  have l6 : cN s 6 = 16 := c_l h (6, 16) (by decide)
  have hc := h.2.2.2.1.2.1
  have h7 : ∀ (m : Nat) (o : Option cV), m ≤ 16 → CP X Z d 59 7 [some (kQ (some 5)), some (kI k), some (kI v), some (kI ((m : Int) - 1)), o] [] s (fun r s' => (∃ o, r = .inl (some (kQ o)) ∧ ∀ u, o = some u → c_un s u) ∧ s' = s) := by
    intro m
    induction m with
    | zero =>
      intro o _
      exact c_at nb59_7 hd rfl ⟨⟨by decide, by decide⟩, fun _ => c_at nb59_51 hd rfl ⟨⟨none, rfl, fun u hu => by cases hu⟩, rfl⟩, fun z => absurd (show ((0 : Nat) : Int) - 1 < 0 by decide) z⟩
    | succ m ih =>
      intro o hm
      have em : ((m + 1 : Nat) : Int) - 1 = (m : Int) := by omega
      rw [em]
      have h45 : ∀ o, CP X Z d 59 45 [some (kQ (some 5)), some (kI k), some (kI v), some (kI (m : Int)), o] [] s (fun r s' => (∃ o, r = .inl (some (kQ o)) ∧ ∀ u, o = some u → c_un s u) ∧ s' = s) := fun o => c_at nb59_45 hd rfl (ih o (by omega))
      refine c_at nb59_7 hd rfl ⟨⟨by omega, by omega⟩, fun z => by omega, fun _ => ⟨5, rfl, t5, 6, 1, e6, t6, by decide, ⟨by omega, by rw [l6]; omega, by omega⟩, fun _ => h45 _, fun z => ?_⟩⟩
      cases hu : s.2.1 6 ((m : Int).toNat) with
      | none => exact absurd hu z
      | some u =>
        have cu := (h.2.2.1 6).2.2.2.2.2.2 t6 _ u hu
        refine ⟨u, rfl, cu.1, h.1 _ _, hk, fun _ => h45 _, fun _ => ⟨u, rfl, cu.1, h.1 _ _, hv, fun _ => h45 _, fun _ => ⟨⟨_, rfl, fun w hw => ?_⟩, rfl⟩⟩⟩
        cases hw
        exact cu
  refine c_G_of (L := [some (kQ (some 5)), some (kI k), some (kI v), none, none]) (by rw [nl59]; exact Nat.le_of_ble_eq_true rfl) (by rw [nl59]; rfl) ?_
  refine c_at nb59_0 hd rfl ⟨5, rfl, t5, ?_⟩
  have := h7 (s.1 5 1).toNat none (by omega)
  rw [show (((s.1 5 1).toNat : Nat) : Int) - 1 = s.1 5 1 - 1 from by omega] at this
  exact this
end D5
