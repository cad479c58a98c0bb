/-! A BODY IS TRANSLATED: what stays, what is left of the room -/
/-- the names bound are k more; the code has grown by j beyond four for each fix; no form is new; each replacement takes a cell of three -/
def c_TN (k j : Int) (s s' : cS) : Prop := c_ok s' ∧ c_E s s' ∧ c_tx s s' ∧ (∀ b, cT s' b = 3 → cT s b = 3) ∧ (((cq s).1 : Int) + s.1 7 9 ≤ (cq s').1 + s'.1 7 9 ∧ ((cq s).2 : Int) + 3 * s.1 7 9 ≤ (cq s').2 + 3 * s'.1 7 9 ∧ cn s' + (cq s').1 ≤ cn s + (cq s).1) ∧ (s'.1 7 8 = s.1 7 8 + k ∧ s.1 8 1 - 4 * s.1 7 5 + j ≤ s'.1 8 1 - 4 * s'.1 7 5)
/-- it went wrong -/
def c_TX (s s' : cS) : Prop := c_ok s' ∧ c_E s s' ∧ c_tx s s' ∧ (((cq s).1 : Int) + s.1 7 9 ≤ (cq s').1 + 13 ∧ ((cq s).2 : Int) + 3 * s.1 7 9 ≤ (cq s').2 + 42 ∧ cn s' + (cq s').1 ≤ cn s + (cq s).1)
/-- what it needs -/
def c_TC (s : cS) : Prop := c_ok s ∧ (13 ≤ ((cq s).1 : Int) + s.1 7 9 ∧ 42 ≤ ((cq s).2 : Int) + 3 * s.1 7 9) ∧ cn s + (cq s).1 ≤ 1000000
def c_TP (s : cS) (k j : Int) (V : Option cV → cS → Prop) : cA → cS → Prop := fun r s' => (r = .inr 1 ∧ c_TX s s') ∨ (∃ v, r = .inl v ∧ V v s' ∧ c_TN k j s s')
def c_vn (v : Option cV) (_ : cS) : Prop := v = none
def c_vi (v : Option cV) (_ : cS) : Prop := ∃ x, v = some (kI x) ∧ n_rng x
section D9
variable {X : Nat → mm_O} {Z : Nat → List Int32} {d : Nat} {s s0 s' S t : cS} {a b i : Nat} {x v k j k0 j0 k1 j1 : Int} {o : Option Nat}
theorem c_uA_ne {y l : Nat} (h : y ≠ a) : (c_uA s a i x).1 y l = s.1 y l := n_ua_ne h
theorem c_TN_rf (h : c_ok s) : c_TN 0 0 s s := ⟨h, c_E_rf, c_tx_rf, fun _ h => h, ⟨by omega, by omega, Nat.le_refl _⟩, by omega, by omega⟩
theorem c_TN_tr (h : c_TN k0 j0 s s') (g : c_TN k j s' t) : c_TN (k0 + k) (j0 + j) s t := by
  obtain ⟨h1, h2, h3, h4, ⟨h5, h6, h7⟩, h8, h9⟩ := h
  obtain ⟨g1, g2, g3, g4, ⟨g5, g6, g7⟩, g8, g9⟩ := g
  exact ⟨g1, c_E_tr h2 g2, c_tx_tr h3 g3, fun b hb => h4 b (g4 b hb), ⟨by omega, by omega, by omega⟩, by omega, by omega⟩
theorem c_TN_c (h : c_TN k0 j0 s s') (hk : k0 = k) (hj : j ≤ j0) : c_TN k j s s' := by
  obtain ⟨h1, h2, h3, h4, h5, h8, h9⟩ := h
  exact ⟨h1, h2, h3, h4, h5, by omega, by omega⟩
theorem c_NX (h : c_TN k0 j0 s s') (g : c_TX s' t) : c_TX s t := by
  obtain ⟨h1, h2, h3, h4, ⟨h5, h6, h7⟩, h8, h9⟩ := h
  obtain ⟨g1, g2, g3, ⟨g5, g6, g7⟩⟩ := g
  exact ⟨g1, c_E_tr h2 g2, c_tx_tr h3 g3, ⟨by omega, by omega, by omega⟩⟩
theorem c_TC_N (h : c_TC s) (g : c_TN k j s s') : c_TC s' := by
  obtain ⟨g1, g2, g3, g4, ⟨g5, g6, g7⟩, g8⟩ := g
  obtain ⟨h1, ⟨h2, h3⟩, h4⟩ := h
  exact ⟨g1, ⟨by omega, by omega⟩, by omega⟩
theorem c_TC_few (h : c_TC s) : c_few s := by
  have := h.2.2
  unfold c_few
  omega
theorem c_TC_q (h : c_TC s) : 1 ≤ (cq s).1 ∧ 6 ≤ (cq s).2 := by
  obtain ⟨h1, ⟨h2, h3⟩, h4⟩ := h
  have := h1.2.2.2.1.2.2.2.2.1
  omega
/-- a throw -/
theorem c_TX_q (h : c_TC s) : c_TX s (c_q s 1 6) := by
  have hq := c_TC_q h
  obtain ⟨h1, ⟨h2, h3⟩, h4⟩ := h
  obtain ⟨e1, e2, e3⟩ := c_ok_q h1 (x := 1) (y := 6)
  have h5 := h1.2.2.2.1.2.2.2.2.1
  have q1 : (cq (c_q s 1 6)).1 = (cq s).1 - 1 := rfl
  have q2 : (cq (c_q s 1 6)).2 = (cq s).2 - 6 := rfl
  have q3 : cn (c_q s 1 6) = cn s := rfl
  exact ⟨e1, e2, e3, ⟨by rw [q1]; omega, by rw [q2]; omega, by rw [q1, q3]; omega⟩⟩
theorem c_T_mk {x y : Nat} (h : c_RP s s' x y) (hx : (x : Int) + s.1 7 9 ≤ s'.1 7 9) (hy : (y : Int) + 3 * s.1 7 9 ≤ 3 * s'.1 7 9) (hc : cn s' + (cq s').1 ≤ cn s + (cq s).1) (hf : ∀ b, cT s' b = 3 → cT s b = 3) (e8 : s'.1 7 8 = s.1 7 8 + k) (ej : s.1 8 1 - 4 * s.1 7 5 + j ≤ s'.1 8 1 - 4 * s'.1 7 5) : c_TN k j s s' := by
  obtain ⟨h1, h2, h3, h4⟩ := h
  unfold c_bd at h4
  exact ⟨h1, h2, h3, hf, ⟨by omega, by omega, hc⟩, e8, ej⟩
theorem c_T_A (h : c_RP s s' 0 0) (h2 : s'.2 = s.2) (h9 : s'.1 7 9 = s.1 7 9) (e8 : s'.1 7 8 = s.1 7 8 + k) (ej : s.1 8 1 - 4 * s.1 7 5 + j ≤ s'.1 8 1 - 4 * s'.1 7 5) : c_TN k j s s' :=
  c_T_mk h (by omega) (by omega) (by unfold cn cq; rw [h2]; exact Nat.le_refl _) (fun b hb => by rw [c_T2 h2] at hb; exact hb) e8 ej
theorem c_RP_row (h : c_ok s) (ha : a = 12 ∨ a = 13 ∨ a = 14 ∨ a = 15) : c_RP s (c_uA s a i (c_w x)) 0 0 := by
  have ta : cT s a = 20 := by
    rcases ha with rfl | rfl | rfl | rfl
    · exact c_t h (12, 20) (by decide)
    · exact c_t h (13, 20) (by decide)
    · exact c_t h (14, 20) (by decide)
    · exact c_t h (15, 20) (by decide)
  have e : ∀ y l, y ≠ a → (c_uA s a i (c_w x)).1 y l = s.1 y l := fun y l hy => n_ua_ne hy
  exact ⟨c_ok_u h (c_w_rg _) ta (by decide) (c_sA_of h.2.2.2.1 (e 3 1 (by omega)) (e 5 1 (by omega)) (e 7 5 (by omega)) (e 7 8 (by omega)) (e 7 9 (by omega)) (e 16 3 (by omega)) rfl), c_E_2 rfl, c_tx_u ⟨by omega, by omega, by omega⟩, c_bd0⟩
theorem c_T_row (h : c_ok s) (ha : a = 12 ∨ a = 13 ∨ a = 14 ∨ a = 15) : c_TN 0 0 s (c_uA s a i (c_w x)) := by
  have e : ∀ y l, y ≠ a → (c_uA s a i (c_w x)).1 y l = s.1 y l := fun y l hy => n_ua_ne hy
  exact c_T_A (c_RP_row h ha) rfl (e 7 9 (by omega)) (by rw [e 7 8 (by omega)]; omega) (by rw [e 8 1 (by omega), e 7 5 (by omega)]; omega)
theorem c_RP_u7 (h : c_ok s) (hx : n_rng x) (h5 : i = 5 → 0 ≤ x ∧ x ≤ 50) (h8 : i = 8 → 0 ≤ x ∧ x ≤ 104) (h9 : i = 9 → 0 ≤ x ∧ x ≤ 12) : c_RP s (c_uA s 7 i x) 0 0 := by
  have t7 := c_t h (7, 2) (by decide)
  have e : ∀ y l, y ≠ 7 → (c_uA s 7 i x).1 y l = s.1 y l := fun y l hy => n_ua_ne hy
  have e7 : ∀ l, (c_uA s 7 i x).1 7 l = if l = i then x else s.1 7 l := fun l => n_ua_eq
  obtain ⟨a1, a2, a3, a4, a5, a6, a7⟩ := h.2.2.2.1
  refine ⟨c_ok_u h hx t7 (by decide) ⟨by rw [e 3 1 (by decide)]; exact a1, by rw [e 5 1 (by decide)]; exact a2, ?_, ?_, ?_, by rw [e 16 3 (by decide)]; exact a6, fun l hl => by rw [e 16 3 (by decide)] at hl; exact a7 l hl⟩, c_E_2 rfl, c_tx_u ⟨by decide, by decide, by decide⟩, c_bd0⟩
  · rw [e7]; split
    · rename_i q; exact h5 q.symm
    · exact a3
  · rw [e7]; split
    · rename_i q; exact h8 q.symm
    · exact a4
  · rw [e7]; split
    · rename_i q; exact h9 q.symm
    · exact a5
/-- a name more, a name less -/
theorem c_T_78 (h : c_ok s) (hk : 0 ≤ s.1 7 8 + k ∧ s.1 7 8 + k ≤ 104) : c_TN k 0 s (c_uA s 7 8 (c_w (s.1 7 8 + k))) := by
  have ew : c_w (s.1 7 8 + k) = s.1 7 8 + k := c_w_id ⟨by omega, by omega⟩
  have e7 : ∀ l, (c_uA s 7 8 (c_w (s.1 7 8 + k))).1 7 l = if l = 8 then c_w (s.1 7 8 + k) else s.1 7 l := fun l => n_ua_eq
  have e8 : (c_uA s 7 8 (c_w (s.1 7 8 + k))).1 8 1 = s.1 8 1 := c_uA_ne (by decide)
  exact c_T_A (c_RP_u7 h (c_w_rg _) (fun e => by cases e) (fun _ => by rw [ew]; exact hk) (fun e => by cases e)) rfl (by rw [e7, if_neg (by decide)]) (by rw [e7, if_pos rfl, ew]) (by rw [e8, e7, if_neg (by decide)]; omega)
theorem c_T_75 (h : c_ok s) (hk : s.1 7 5 < 50) : c_TN 0 (-4) s (c_uA s 7 5 (c_w (s.1 7 5 + 1))) := by
  have h5 := h.2.2.2.1.2.2.1
  have ew : c_w (s.1 7 5 + 1) = s.1 7 5 + 1 := c_w_id ⟨by omega, by omega⟩
  have e7 : ∀ l, (c_uA s 7 5 (c_w (s.1 7 5 + 1))).1 7 l = if l = 5 then c_w (s.1 7 5 + 1) else s.1 7 l := fun l => n_ua_eq
  have e8 : (c_uA s 7 5 (c_w (s.1 7 5 + 1))).1 8 1 = s.1 8 1 := c_uA_ne (by decide)
  exact c_T_A (c_RP_u7 h (c_w_rg _) (fun _ => by rw [ew]; omega) (fun e => by cases e) (fun e => by cases e)) rfl (by rw [e7, if_neg (by decide)]) (by rw [e7, if_neg (by decide)]; omega) (by rw [e8, e7, if_pos rfl, ew]; omega)
/-- the code has changed -/
theorem c_T_BM (h : c_ok s) (hm : c_BM s 8 9 s') (hj : s.1 8 1 + j ≤ s'.1 8 1) : c_TN 0 j s s' := by
  have hb : c_By s 8 9 := c_ok_By h (p := (8, 0, 9)) (by decide) rfl (by decide)
  obtain ⟨g1, g2⟩ := c_ok_BM h hb hm
  obtain ⟨m1, m2, -, -⟩ := hm
  have e : ∀ l, s'.1 7 l = s.1 7 l := fun l => m2 7 l (by decide) (fun e => absurd e.1 (by decide))
  refine c_T_A ⟨g1, g2, ⟨m2 1 1 (by decide) (fun e => absurd e.1 (by decide)), fun l => m2 2 l (by decide) (fun e => absurd e.1 (by decide)), m2 0 6 (by decide) (fun e => absurd e.1 (by decide))⟩, by unfold c_bd cq cn; rw [m1]; omega⟩ m1 (e 9) (by rw [e]; omega) (by rw [e]; omega)
theorem c_T_R7 (h : c_ok s) {l : Nat} (hl : (l = 10 ∧ c_fo s o) ∨ (l = 11 ∧ c_rp s o)) : c_TN 0 0 s (c_uR s 7 l o) := by
  have t7 : cT s 7 = 2 := c_t h (7, 2) (by decide)
  obtain ⟨r1, r2, r3, r4⟩ := h.2.2.2.2
  have hk : (cT s 7 = 1 ∨ cT s 7 = 7 ∨ cT s 7 = 9) → o ≠ none := fun q => by rw [t7] at q; exact absurd q (by decide)
  have hE : c_E s (c_uR s 7 l o) := c_E_R hk
  have t7' : cT (c_uR s 7 l o) 7 = 2 := t7
  have q : c_RP s (c_uR s 7 l o) 0 0 := by
    refine ⟨c_ok_R h (fun p hp e => ?_) ⟨fun q => ?_, fun q => ?_, fun q => ?_, fun q => ?_, fun q => ?_, fun q => ?_, fun q => ?_⟩ hk (fun e => by cases e) ⟨r1, r2, ?_, ?_⟩, hE, c_tx_rf, c_bd0⟩
    · have hr : ∀ p ∈ c_rfs, ¬ (p.1 = 7 ∧ (p.2.1 = 10 ∨ p.2.1 = 11)) := by decide
      exact hr p hp ⟨e.1, by rw [e.2]; rcases hl with hl | hl; exact Or.inl hl.1; exact Or.inr hl.1⟩
    iterate 7 (rw [t7'] at q; exact absurd q (by decide))
    · rw [c_R_at]
      split
      · rename_i e
        rcases hl with hl | hl
        · exact hl.2
        · rw [← e.2] at hl; exact absurd hl.1 (by decide)
      · exact r3
    · rw [c_R_at]
      split
      · rename_i e
        rcases hl with hl | hl
        · rw [← e.2] at hl; exact absurd hl.1 (by decide)
        · exact c_rp_E hE hl.2
      · exact c_rp_E hE r4
  exact c_T_mk q (by show _ ≤ s.1 7 9; omega) (by show _ ≤ 3 * s.1 7 9; omega) (Nat.le_refl _) (fun b hb => hb) (by show s.1 7 8 = _; omega) (by show _ ≤ s.1 8 1 - 4 * s.1 7 5; omega)
/-! calls -/
variable {is : List Instr} {L : cL} {vs : List cV} {J : Nat → cL → List cV → cS → Prop} {V W : Option cV → cS → Prop} {r : List cV} {m ci : Nat}
theorem c_tv (hn : mm_na m = vs.length) (hl : vs.length + r.length ≤ 12) (hr : vs.head? = some (kQ (some a))) (hci : mm_ci m = ci) (hta : cT s a = ci) (hc : ci < 10) (hN : c_TN k0 j0 s0 s) (hG : CG X Z d m vs s (c_TP s k j V)) (K : ∀ v s', V v s' → c_TN k j s s' → c_TN (k0 + k) (j0 + j) s0 s' → c_Kt (c_TP s0 k1 j1 W) (wc Z J (cC X Z (d + 1)) (c_TP s0 k1 j1 W) is L) r (.inl v) s') : wc Z J (cC X Z (d + 1)) (c_TP s0 k1 j1 W) (.invokevirtual m :: is) L (vs.reverse ++ r) s := by
  refine c_iv hn hl hr hci hta hc hG (fun r s' h => ?_)
  rcases h with ⟨e, h⟩ | ⟨v, e, h1, h2⟩
  · rw [e]
    exact Or.inl ⟨rfl, c_NX hN h⟩
  · rw [e]
    exact K v s' h1 h2 (c_TN_tr hN h2)
theorem c_ts (hn : mm_na m = vs.length) (hl : vs.length + r.length ≤ 12) (hN : c_TN k0 j0 s0 s) (hG : CG X Z d m vs s (c_TP s k j V)) (K : ∀ v s', V v s' → c_TN k j s s' → c_TN (k0 + k) (j0 + j) s0 s' → c_Kt (c_TP s0 k1 j1 W) (wc Z J (cC X Z (d + 1)) (c_TP s0 k1 j1 W) is L) r (.inl v) s') : wc Z J (cC X Z (d + 1)) (c_TP s0 k1 j1 W) (.invokestatic m :: is) L (vs.reverse ++ r) s := by
  refine c_is hn hl hG (fun r s' h => ?_)
  rcases h with ⟨e, h⟩ | ⟨v, e, h1, h2⟩
  · rw [e]
    exact Or.inl ⟨rfl, c_NX hN h⟩
  · rw [e]
    exact K v s' h1 h2 (c_TN_tr hN h2)
theorem c_thr (h : c_TC s) (hN : c_TN k0 j0 s0 s) : 1 ≤ (cq s).1 ∧ 6 ≤ (cq s).2 ∧ c_TP s0 k1 j1 W (.inr 1) (c_q s 1 6) := ⟨(c_TC_q h).1, (c_TC_q h).2, Or.inl ⟨rfl, c_NX hN (c_TX_q h)⟩⟩
theorem c_thr0 (h : c_TC s) : 1 ≤ (cq s).1 ∧ 6 ≤ (cq s).2 ∧ c_TP s k1 j1 W (.inr 1) (c_q s 1 6) := c_thr h (c_TN_rf h.1)
/-! the small ones -/
theorem cg64 (hd : 6 ≤ d) (h : c_TC s) : CG X Z (d + 1) 64 [kQ (some 7), kI v] s (c_TP s 0 1 c_vn) := by
  have t7 := c_t h.1 (7, 2) (by decide)
  have t8 := c_t h.1 (8, 1) (by decide)
  have e1 : s.2.1 7 1 = some 8 := c_r h.1 (7, 1, 8) (by decide)
  have hb : c_By s 8 9 := c_ok_By h.1 (p := (8, 0, 9)) (by decide) rfl (by decide)
  have l9 := c_l h.1 (9, 200) (by decide)
  refine c_G_of (L := [some (kQ (some 7)), some (kI v)]) (by rw [nl64]; exact Nat.le_of_ble_eq_true rfl) (by rw [nl64]; rfl) ?_
  refine c_at nb64_0 (by omega) rfl ⟨7, rfl, t7, ?_⟩
  show wc Z _ _ _ _ _ [kQ (s.2.1 7 1)] s
  rw [e1]
  refine c_iv (a := 8) (vs := [kQ (some 8)]) (r := []) nn10 (by simp) rfl nc10 t8 (by decide) (cg10 hd hb) (fun r s' hr => ?_)
  rw [hr.1, hr.2]
  have hle := hb.2.2.2.1
  refine ⟨⟨by rw [l9] at hle ⊢; omega, by rw [l9] at hle ⊢; omega⟩, fun z => ?_, fun _ => ⟨by simp, c_thr0 h⟩⟩
  refine c_at nb64_20 (by omega) rfl ⟨7, rfl, t7, ?_⟩
  show wc Z _ _ _ _ _ [kI v, kQ (s.2.1 7 1)] s
  rw [e1]
  refine c_iv (a := 8) (vs := [kQ (some 8), kI v]) (r := []) nn11 (by simp) rfl nc11 t8 (by decide) (cg11 hd hb) (fun r s' hr => ?_)
  rw [hr.1, hr.2]
  refine ⟨rfl, Or.inr ⟨none, rfl, rfl, c_T_BM h.1 (c_put_BM hb h.1.1) ?_⟩⟩
  rw [c_put_len hb, if_pos (by omega)]
  omega
theorem cg53 (hd : 6 ≤ d) (h : c_TC s) : CG X Z d 53 [kQ (some 7), kI v, kI x] s (c_TP s 1 0 c_vn) := by
  have t7 := c_t h.1 (7, 2) (by decide)
  have t14 := c_t h.1 (14, 20) (by decide)
  have t15 := c_t h.1 (15, 20) (by decide)
  have e6 : s.2.1 7 6 = some 14 := c_r h.1 (7, 6, 14) (by decide)
  have e7 : s.2.1 7 7 = some 15 := c_r h.1 (7, 7, 15) (by decide)
  have l14 : cN s 14 = 104 := c_l h.1 (14, 104) (by decide)
  have l15 : cN s 15 = 104 := c_l h.1 (15, 104) (by decide)
  have h8 := h.1.2.2.2.1.2.2.2.1
  refine c_G_of (L := [some (kQ (some 7)), some (kI v), some (kI x)]) (by rw [nl53]; exact Nat.le_of_ble_eq_true rfl) (by rw [nl53]; rfl) ?_
  refine c_at nb53_0 (by omega) rfl ⟨7, rfl, t7, h.1.1 _ _, ⟨by decide, by decide⟩, fun z => ?_, fun _ => ⟨by simp, c_thr0 h⟩⟩
  have q1 := c_T_row h.1 (a := 14) (i := (s.1 7 8).toNat) (x := v) (by omega)
  have d1 : (c_uA s 14 (s.1 7 8).toNat (c_w v)).1 7 8 = s.1 7 8 := c_uA_ne (by decide)
  have q2 := c_T_row q1.1 (a := 15) (i := (s.1 7 8).toNat) (x := x) (by omega)
  have d2 : (c_uA (c_uA s 14 (s.1 7 8).toNat (c_w v)) 15 (s.1 7 8).toNat (c_w x)).1 7 8 = s.1 7 8 := by
    rw [c_uA_ne (by decide)]
    exact d1
  have q3 := c_T_78 q2.1 (k := 1) (by rw [d2]; omega)
  refine c_at nb53_20 (by omega) rfl ⟨7, rfl, t7, 7, rfl, t7, 14, e6, t14, ⟨h8.1, by rw [l14]; omega, by omega⟩, ?_⟩
  generalize hS : c_uA s 14 (s.1 7 8).toNat (c_w v) = S1 at *
  have r1 : S1.2 = s.2 := by rw [← hS]; rfl
  have n1 : cN S1 15 = 104 := by rw [c_N2 r1]; exact l15
  refine ⟨7, rfl, by rw [c_T2 r1]; exact t7, 7, rfl, by rw [c_T2 r1]; exact t7, 15, by rw [r1]; exact e7, by rw [c_T2 r1]; exact t15, ⟨by rw [d1]; exact h8.1, by rw [d1, n1]; omega, by rw [d1]; omega⟩, ?_⟩
  rw [d1]
  generalize hS2 : c_uA S1 15 (s.1 7 8).toNat (c_w x) = S2 at *
  have r2 : S2.2 = s.2 := by rw [← hS2]; exact r1
  exact ⟨7, rfl, by rw [c_T2 r2]; exact t7, 7, rfl, by rw [c_T2 r2]; exact t7, rfl, Or.inr ⟨none, rfl, rfl, c_TN_c (c_TN_tr q1 (c_TN_tr q2 q3)) (by decide) (by decide)⟩⟩
theorem cg77 (hd : 6 ≤ d) (h : c_TC s) : CG X Z d 77 [kQ (some 7), kI v, kI x] s (c_TP s 0 (-4) c_vn) := by
  have t7 := c_t h.1 (7, 2) (by decide)
  have t12 := c_t h.1 (12, 20) (by decide)
  have t13 := c_t h.1 (13, 20) (by decide)
  have e3 : s.2.1 7 3 = some 12 := c_r h.1 (7, 3, 12) (by decide)
  have e4 : s.2.1 7 4 = some 13 := c_r h.1 (7, 4, 13) (by decide)
  have l12 : cN s 12 = 50 := c_l h.1 (12, 50) (by decide)
  have l13 : cN s 13 = 50 := c_l h.1 (13, 50) (by decide)
  have h8 := h.1.2.2.2.1.2.2.1
  refine c_G_of (L := [some (kQ (some 7)), some (kI v), some (kI x)]) (by rw [nl77]; exact Nat.le_of_ble_eq_true rfl) (by rw [nl77]; rfl) ?_
  refine c_at nb77_0 (by omega) rfl ⟨7, rfl, t7, h.1.1 _ _, ⟨by decide, by decide⟩, fun z => ?_, fun _ => ⟨by simp, c_thr0 h⟩⟩
  have q1 := c_T_row h.1 (a := 12) (i := (s.1 7 5).toNat) (x := v) (by omega)
  have d1 : (c_uA s 12 (s.1 7 5).toNat (c_w v)).1 7 5 = s.1 7 5 := c_uA_ne (by decide)
  have q2 := c_T_row q1.1 (a := 13) (i := (s.1 7 5).toNat) (x := x) (by omega)
  have d2 : (c_uA (c_uA s 12 (s.1 7 5).toNat (c_w v)) 13 (s.1 7 5).toNat (c_w x)).1 7 5 = s.1 7 5 := by
    rw [c_uA_ne (by decide)]
    exact d1
  have q3 := c_T_75 q2.1 (by rw [d2]; omega)
  refine c_at nb77_20 (by omega) rfl ⟨7, rfl, t7, 7, rfl, t7, 12, e3, t12, ⟨h8.1, by rw [l12]; omega, by omega⟩, ?_⟩
  generalize hS : c_uA s 12 (s.1 7 5).toNat (c_w v) = S1 at *
  have r1 : S1.2 = s.2 := by rw [← hS]; rfl
  have n1 : cN S1 13 = 50 := by rw [c_N2 r1]; exact l13
  refine ⟨7, rfl, by rw [c_T2 r1]; exact t7, 7, rfl, by rw [c_T2 r1]; exact t7, 13, by rw [r1]; exact e4, by rw [c_T2 r1]; exact t13, ⟨by rw [d1]; exact h8.1, by rw [d1, n1]; omega, by rw [d1]; omega⟩, ?_⟩
  rw [d1]
  generalize hS2 : c_uA S1 13 (s.1 7 5).toNat (c_w x) = S2 at *
  have r2 : S2.2 = s.2 := by rw [← hS2]; exact r1
  exact ⟨7, rfl, by rw [c_T2 r2]; exact t7, 7, rfl, by rw [c_T2 r2]; exact t7, rfl, Or.inr ⟨none, rfl, rfl, c_TN_c (c_TN_tr q1 (c_TN_tr q2 q3)) (by decide) (by decide)⟩⟩
theorem cg65 (hd : 6 ≤ d) (h : c_TC s) (hv : n_rng v) : CG X Z d 65 [kQ (some 7), kI v] s (c_TP s 0 0 c_vi) := by
  have t7 := c_t h.1 (7, 2) (by decide)
  have t14 := c_t h.1 (14, 20) (by decide)
  have t15 := c_t h.1 (15, 20) (by decide)
  have e6 : s.2.1 7 6 = some 14 := c_r h.1 (7, 6, 14) (by decide)
  have e7 : s.2.1 7 7 = some 15 := c_r h.1 (7, 7, 15) (by decide)
  have l14 : cN s 14 = 104 := c_l h.1 (14, 104) (by decide)
  have l15 : cN s 15 = 104 := c_l h.1 (15, 104) (by decide)
  have h8 := h.1.2.2.2.1.2.2.2.1
  have h7 : ∀ m : Nat, m ≤ 104 → CP X Z d 65 7 [some (kQ (some 7)), some (kI v), some (kI ((m : Int) - 1))] [] s (c_TP s 0 0 c_vi) := by
    intro m
    induction m with
    | zero =>
      intro _
      exact c_at nb65_7 hd rfl ⟨⟨by decide, by decide⟩, fun _ => c_at nb65_34 hd rfl ⟨by simp, c_thr0 h⟩, fun z => absurd (show ((0 : Nat) : Int) - 1 < 0 by decide) z⟩
    | succ m ih =>
      intro hm
      have e1 : (((m + 1 : Nat) : Int) - 1) = (m : Int) := by omega
      rw [e1]
      refine c_at nb65_7 hd rfl ⟨⟨by omega, by omega⟩, fun z => absurd z (by omega), fun _ => ⟨7, rfl, t7, 14, e6, t14, ⟨by omega, by rw [l14]; omega, by omega⟩, h.1.1 _ _, hv, fun _ => ?_, fun _ => ⟨7, rfl, t7, 15, e7, t15, ⟨by omega, by rw [l15]; omega, by omega⟩, Or.inr ⟨_, rfl, ⟨_, rfl, h.1.1 _ _⟩, c_TN_rf h.1⟩⟩⟩⟩
      exact c_at nb65_28 hd rfl (ih (by omega))
  refine c_G_of (L := [some (kQ (some 7)), some (kI v), none]) (by rw [nl65]; exact Nat.le_of_ble_eq_true rfl) (by rw [nl65]; rfl) ?_
  refine c_at nb65_0 hd rfl ⟨7, rfl, t7, ?_⟩
  have := h7 (s.1 7 8).toNat (by omega)
  rw [show (((s.1 7 8).toNat : Nat) : Int) = s.1 7 8 from by omega] at this
  exact this
theorem cg66 (hd : 6 ≤ d) (h : c_TC s) : CG X Z d 66 [kQ (some 7)] s (c_TP s 0 0 c_vi) := by
  have t7 := c_t h.1 (7, 2) (by decide)
  have h18 : CP X Z d 66 18 [some (kQ (some 7))] [] s (c_TP s 0 0 c_vi) := c_at nb66_18 hd rfl ⟨by simp, c_thr0 h⟩
  refine c_G_of (L := [some (kQ (some 7))]) (by rw [nl66]; exact Nat.le_of_ble_eq_true rfl) (by rw [nl66]; rfl) ?_
  refine c_at nb66_0 hd rfl ⟨7, rfl, t7, fun _ => h18, fun z => ?_⟩
  obtain ⟨f, ef⟩ : ∃ n, s.2.1 7 10 = some n := Option.ne_none_iff_exists'.mp z
  have tf := h.1.2.2.2.2.2.2.1 f ef
  refine ⟨7, rfl, t7, f, ef, tf, h.1.1 _ _, ⟨by decide, by decide⟩, fun _ => ?_, fun _ => h18⟩
  exact c_at nb66_29 hd rfl ⟨7, rfl, t7, f, ef, tf, Or.inr ⟨_, rfl, ⟨_, rfl, h.1.1 _ _⟩, c_TN_rf h.1⟩⟩
theorem cg67 (hd : 6 ≤ d) (hv : n_rng v) : CG X Z d 67 [kI v] s (fun r s' => (∃ x, r = .inl (some (kI x))) ∧ s' = s) := by
  refine c_G_of (L := [some (kI v)]) (by rw [nl67]; exact Nat.le_of_ble_eq_true rfl) (by rw [nl67]; rfl) ?_
  exact c_at nb67_0 hd rfl ⟨hv, ⟨by decide, by decide⟩, fun _ => c_at nb67_48 hd rfl ⟨⟨_, rfl⟩, rfl⟩, fun _ => ⟨⟨by decide, by decide⟩, fun _ => c_at nb67_44 hd rfl ⟨⟨_, rfl⟩, rfl⟩, fun _ => ⟨⟨by decide, by decide⟩, fun _ => c_at nb67_46 hd rfl ⟨⟨_, rfl⟩, rfl⟩, fun _ => ⟨⟨by decide, by decide⟩, fun _ => c_at nb67_50 hd rfl ⟨⟨_, rfl⟩, rfl⟩, fun _ => c_at nb67_52 hd rfl ⟨⟨_, rfl⟩, rfl⟩⟩⟩⟩⟩
theorem cg61 (hd : 6 ≤ d) (h : c_TC s) (ha : cT s a = 3) (hv : n_rng v) : CG X Z d 61 [kQ (some a), kI v] s (c_TP s 0 0 c_vn) := by
  refine c_G_of (L := [some (kQ (some a)), some (kI v)]) (by rw [nl61]; exact Nat.le_of_ble_eq_true rfl) (by rw [nl61]; rfl) ?_
  exact c_at nb61_0 hd rfl ⟨a, rfl, ha, h.1.1 _ _, hv, fun _ => c_at nb61_19 hd rfl ⟨rfl, Or.inr ⟨none, rfl, rfl, c_TN_rf h.1⟩⟩, fun _ => ⟨by simp, c_thr0 h⟩⟩
theorem cg63 (hd : 6 ≤ d) (h : c_TC s) : CG X Z (d + 2) 63 [kQ (some 7), kI v] s (c_TP s 0 0 c_vn) := by
  have t7 := c_t h.1 (7, 2) (by decide)
  refine c_G_of (L := [some (kQ (some 7)), some (kI v)]) (by rw [nl63]; exact Nat.le_of_ble_eq_true rfl) (by rw [nl63]; rfl) ?_
  refine c_at nb63_0 (by omega) rfl ?_
  refine c_tv (d := d + 1) (a := 7) (vs := [kQ (some 7), kI 0]) (r := []) nn64 (by simp) rfl nc64 t7 (by decide) (c_TN_rf h.1) (cg64 hd h) (fun v1 s1 e1 n1 m1 => ?_)
  rw [show v1 = none from e1]
  have c1 := c_TC_N h m1
  refine c_tv (d := d + 1) (a := 7) (vs := [kQ (some 7), kI _]) (r := []) nn64 (by simp) rfl nc64 (c_t c1.1 (7, 2) (by decide)) (by decide) m1 (cg64 hd c1) (fun v2 s2 e2 n2 m2 => ?_)
  rw [show v2 = none from e2]
  have c2 := c_TC_N h m2
  refine c_tv (d := d + 1) (a := 7) (vs := [kQ (some 7), kI _]) (r := []) nn64 (by simp) rfl nc64 (c_t c2.1 (7, 2) (by decide)) (by decide) m2 (cg64 hd c2) (fun v3 s3 e3 n3 m3 => ?_)
  rw [show v3 = none from e3]
  exact ⟨rfl, Or.inr ⟨none, rfl, rfl, c_TN_c m3 (by decide) (by decide)⟩⟩
theorem cg70 (hd : 6 ≤ d) (h : c_TC s) : CG X Z (d + 2) 70 [kQ (some 7), kI v] s (c_TP s 0 0 c_vi) := by
  have t7 := c_t h.1 (7, 2) (by decide)
  refine c_G_of (L := [some (kQ (some 7)), some (kI v)]) (by rw [nl70]; exact Nat.le_of_ble_eq_true rfl) (by rw [nl70]; rfl) ?_
  refine c_at nb70_0 (by omega) rfl ?_
  refine c_tv (d := d + 1) (a := 7) (vs := [kQ (some 7), kI v]) (r := []) nn64 (by simp) rfl nc64 t7 (by decide) (c_TN_rf h.1) (cg64 hd h) (fun v1 s1 e1 n1 m1 => ?_)
  rw [show v1 = none from e1]
  have c1 := c_TC_N h m1
  refine c_tv (d := d + 1) (a := 7) (vs := [kQ (some 7), kI _]) (r := []) nn64 (by simp) rfl nc64 (c_t c1.1 (7, 2) (by decide)) (by decide) m1 (cg64 hd c1) (fun v2 s2 e2 n2 m2 => ?_)
  rw [show v2 = none from e2]
  have c2 := c_TC_N h m2
  refine c_tv (d := d + 1) (a := 7) (vs := [kQ (some 7), kI _]) (r := []) nn64 (by simp) rfl nc64 (c_t c2.1 (7, 2) (by decide)) (by decide) m2 (cg64 hd c2) (fun v3 s3 e3 n3 m3 => ?_)
  rw [show v3 = none from e3]
  have c3 := c_TC_N h m3
  have hb : c_By s3 8 9 := c_ok_By c3.1 (p := (8, 0, 9)) (by decide) rfl (by decide)
  have hle := hb.2.2.2.1
  have l9 : cN s3 9 = 200 := c_l c3.1 (9, 200) (by decide)
  rw [l9] at hle
  exact ⟨7, rfl, c_t c3.1 (7, 2) (by decide), 8, c_r c3.1 (7, 1, 8) (by decide), c_t c3.1 (8, 1) (by decide), Or.inr ⟨_, rfl, ⟨_, rfl, ⟨by omega, by omega⟩⟩, c_TN_c m3 (by decide) (by decide)⟩⟩
end D9
