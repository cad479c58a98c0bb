/-! THE TASK MACHINE: what stands while a body is made -/
def n_bf (b s : nS) : Prop := (∀ k, ¬ (k = 17 ∨ k = 18 ∨ (23 ≤ k ∧ k ≤ 25) ∨ (28 ≤ k ∧ k ≤ 34)) → s.1 k = b.1 k) ∧ (∀ a i, ¬ (38 ≤ a ∧ a ≤ 51) → s.2 a i = b.2 a i)
def n_M (s : nS) (q : Nat) : Prop := ∃ j : Nat, (j : Int) < s.1 34 ∧ s.2 50 j = (q : Int)
def n_MK (s : nS) (D : Nat → Int) : Prop := (0 ≤ s.1 34 ∧ 4 * s.1 34 ≤ s.1 30) ∧ (∀ j : Nat, (j : Int) < s.1 34 → n_rng (s.2 51 j) ∧ ∃ p : Nat, s.2 50 j = (p : Int) + 1 ∧ (p : Int) + 4 ≤ s.1 30 ∧ 0 ≤ D p ∧ s.2 47 p = 12)
def n_GF (s : nS) (H O : Nat → Int) : Prop := n_FI s H O ∧ (0 ≤ s.1 33 ∧ s.1 33 ≤ 12) ∧ s.1 17 ≤ 95 * (s.1 33 + 1) ∧ s.1 18 ≤ 95 * (s.1 33 + 1)
def n_GN (s : nS) : Prop := (0 ≤ s.1 32 ∧ s.1 32 ≤ 110) ∧ (∀ k : Nat, (k : Int) < s.1 32 → n_rng (s.2 48 k))
def n_GD (s : nS) (D : Nat → Int) (z : Nat) : Prop := D z = s.1 31 ∧ 0 ≤ s.1 31 ∧ 2 * s.1 31 ≤ 8 + s.1 30
def n_GZ (s : nS) (z : Nat) : Prop := s.1 30 = (z : Int) ∧ z ≤ 200 ∧ s.1 28 = 0
def n_BI (b s : nS) (D H O : Nat → Int) (Q : Nat → Prop) (z : Nat) : Prop := n_bf b s ∧ n_GZ s z ∧ n_GF s H O ∧ n_GN s ∧ n_GD s D z ∧ n_BC (s.2 47) z D Q (n_M s) ∧ n_MK s D
/-- what stays: tasks below i, slots below v, code below z -/
def n_E (i v : Int) (z : Nat) (s : nS) (D H O : Nat → Int) (s' : nS) (D' H' O' : Nat → Int) : Prop := n_old s H O s' H' O' ∧ s.1 33 ≤ s'.1 33 ∧ (∀ j, j < z → s'.2 47 j = s.2 47 j) ∧ (∀ j, j ≤ z → D' j = D j) ∧ (∀ j : Nat, (j : Int) < i → s'.2 44 j = s.2 44 j ∧ s'.2 45 j = s.2 45 j ∧ s'.2 46 j = s.2 46 j) ∧ (∀ k : Nat, (k : Int) < v → s'.2 49 k = s.2 49 k)
/-- only other fields and arrays differ -/
def n_sm (s t : nS) : Prop := (t.1 17 = s.1 17 ∧ t.1 18 = s.1 18 ∧ t.1 33 = s.1 33) ∧ (∀ a i, 38 ≤ a ∧ a ≤ 41 → t.2 a i = s.2 a i)
section N39
variable {b s t : nS} {D H O D' H' O' D2 H2 O2 : Nat → Int} {Q Q' : Nat → Prop} {z z' w i : Nat} {v : Int}
theorem n_sm_old (h : n_sm s t) : n_old s H O t H O := ⟨by rw [h.1.1]; exact Int.le_refl _, by rw [h.1.2.1]; exact Int.le_refl _, fun i _ => ⟨h.2 38 i (by decide), h.2 39 i (by decide), rfl⟩, fun j _ => ⟨h.2 40 j (by decide), h.2 41 j (by decide), rfl⟩⟩
theorem n_sm_FI (h : n_sm s t) (hF : n_FI s H O) : n_FI t H O := by
  obtain ⟨⟨h1, h2, h3⟩, h4⟩ := h
  obtain ⟨f1, f2, f3, f4⟩ := hF
  refine ⟨by rw [h1]; exact f1, by rw [h2]; exact f2, fun i hi => ?_, fun j hj => ?_⟩
  · have := f3 i (by rw [← h1]; exact hi)
    unfold n_FIf at this ⊢
    rw [h4 38 i (by decide), h4 39 i (by decide), h2]
    exact this
  · have := f4 j (by rw [← h2]; exact hj)
    unfold n_FIc at this ⊢
    rw [h4 40 j (by decide), h4 41 j (by decide), h1, h2]
    exact this
theorem n_sm_GF (h : n_sm s t) (hF : n_GF s H O) : n_GF t H O := by
  obtain ⟨f1, f2, f3, f4⟩ := hF
  refine ⟨n_sm_FI h f1, ?_, ?_, ?_⟩
  · rw [h.1.2.2]; exact f2
  · rw [h.1.1, h.1.2.2]; exact f3
  · rw [h.1.2.1, h.1.2.2]; exact f4
theorem n_old_tr {c : nS} {Hc Oc : Nat → Int} (h1 : n_old s H O t H' O') (h2 : n_old t H' O' c Hc Oc) : n_old s H O c Hc Oc := by
  obtain ⟨a1, a2, a3, a4⟩ := h1
  obtain ⟨c1, c2, c3, c4⟩ := h2
  refine ⟨by omega, by omega, fun i hi => ?_, fun j hj => ?_⟩
  · obtain ⟨p1, p2, p3⟩ := a3 i hi
    obtain ⟨q1, q2, q3⟩ := c3 i (by omega)
    exact ⟨by rw [q1, p1], by rw [q2, p2], by rw [q3, p3]⟩
  · obtain ⟨p1, p2, p3⟩ := a4 j hj
    obtain ⟨q1, q2, q3⟩ := c4 j (by omega)
    exact ⟨by rw [q1, p1], by rw [q2, p2], by rw [q3, p3]⟩
theorem n_E_tr {i j v v' : Int} {c : nS} (h1 : n_E i v z s D H O t D' H' O') (h2 : n_E j v' w t D' H' O' c D2 H2 O2) (hi : i ≤ j) (hv : v ≤ v') (hz : z ≤ w) : n_E i v z s D H O c D2 H2 O2 := by
  obtain ⟨a1, a2, a3, a4, a5, a6⟩ := h1
  obtain ⟨c1, c2, c3, c4, c5, c6⟩ := h2
  refine ⟨n_old_tr a1 c1, by omega, fun j hj => ?_, fun j hj => ?_, fun j hj => ?_, fun k hk => ?_⟩
  · rw [c3 j (by omega), a3 j hj]
  · rw [c4 j (by omega), a4 j hj]
  · obtain ⟨p1, p2, p3⟩ := a5 j hj
    obtain ⟨q1, q2, q3⟩ := c5 j (by omega)
    exact ⟨by rw [q1, p1], by rw [q2, p2], by rw [q3, p3]⟩
  · rw [c6 k (by omega), a6 k hk]
/-- frames of the small changes -/
theorem n_bf_push {x y k : Int} (h : n_bf b s) : n_bf b (n_push s k x y) := by
  refine ⟨fun j hj => ?_, fun a i ha => ?_⟩
  · show n_upd s.1 29 _ j = _
    rw [n_u_ne (by omega)]
    exact h.1 j hj
  · show n_updA (n_updA (n_updA s.2 44 _ _) 45 _ _) 46 _ _ a i = _
    rw [n_ua_ne (by omega), n_ua_ne (by omega), n_ua_ne (by omega)]
    exact h.2 a i ha
theorem n_bf_pop {x : Int} (h : n_bf b s) : n_bf b (n_upd s.1 29 x, s.2) := by
  refine ⟨fun j hj => ?_, h.2⟩
  show n_upd s.1 29 _ j = _
  rw [n_u_ne (by omega)]
  exact h.1 j hj
theorem n_bf_e {x : Int} (h : n_bf b s) : n_bf b (n_e s x) := by
  refine ⟨fun j hj => ?_, fun a i ha => ?_⟩
  · show n_upd (n_upd s.1 30 _) 28 _ j = _
    rw [n_u_ne (by omega), n_u_ne (by omega)]
    exact h.1 j hj
  · show n_updA s.2 47 _ _ a i = _
    rw [n_ua_ne (by omega)]
    exact h.2 a i ha
theorem n_bf_fd {k : Nat} {x : Int} (h : n_bf b s) (hk : 28 ≤ k ∧ k ≤ 34) : n_bf b (n_fd s k x) := by
  refine ⟨fun j hj => ?_, h.2⟩
  show n_upd s.1 k _ j = _
  rw [n_u_ne (by omega)]
  exact h.1 j hj
theorem n_bf_28 {x : Int} (h : n_bf b s) : n_bf b (n_upd s.1 28 x, s.2) := by
  refine ⟨fun j hj => ?_, h.2⟩
  show n_upd s.1 28 _ j = _
  rw [n_u_ne (by omega)]
  exact h.1 j hj
theorem n_bf_aim {k : Int} (h : n_bf b s) : n_bf b (n_aim s k) := by
  refine ⟨h.1, fun a i ha => ?_⟩
  show n_updA (n_updA s.2 47 _ _) 47 _ _ a i = _
  rw [n_ua_ne (by omega), n_ua_ne (by omega)]
  exact h.2 a i ha
theorem n_bf_kn {x y : Int} (h : n_bf b s) : n_bf b (n_kn s x y) := by
  refine ⟨fun j hj => ?_, fun a i ha => ?_⟩
  · show n_upd s.1 32 _ j = _
    rw [n_u_ne (by omega)]
    exact h.1 j hj
  · show n_updA (n_updA s.2 48 _ _) 49 _ _ a i = _
    rw [n_ua_ne (by omega), n_ua_ne (by omega)]
    exact h.2 a i ha
theorem n_bf_mark {x : Int} (h : n_bf b s) : n_bf b (n_mark s x) := by
  refine ⟨fun j hj => ?_, fun a i ha => ?_⟩
  · show n_upd s.1 34 _ j = _
    rw [n_u_ne (by omega)]
    exact h.1 j hj
  · show n_updA (n_updA s.2 50 _ _) 51 _ _ a i = _
    rw [n_ua_ne (by omega), n_ua_ne (by omega)]
    exact h.2 a i ha
/-- bytes of code -/
theorem n_e47 {x : Int} {j : Nat} (hz : s.1 30 = (z : Int)) : (n_e s x).2 47 j = if j = z then n_by x else s.2 47 j := by
  show n_updA s.2 47 (s.1 30).toNat (n_by x) 47 j = _
  rw [n_ua_eq, show (s.1 30).toNat = z from by omega]
theorem n_e30 {x : Int} (hz : s.1 30 = (z : Int)) : (n_e s x).1 30 = ((z + 1 : Nat) : Int) := by
  show s.1 30 + 1 = _
  omega
theorem n_e28 {x : Int} : (n_e s x).1 28 = n_T (decide (¬ s.1 28 = 0 ∨ 200 < s.1 30 + 1)) := rfl
theorem n_T00 {q : Prop} {dq : Decidable q} (h : n_T (@decide q dq) = 0) : ¬ q := of_decide_eq_false (n_T0 h)
theorem n_e28_0 {x : Int} (h : (n_e s x).1 28 = 0) : s.1 28 = 0 ∧ s.1 30 + 1 ≤ 200 := by
  have := n_T00 h
  omega
/-- a task is laid down, or taken: the rest stays -/
theorem n_BI_t (h : n_BI b s D H O Q z) (hb : n_bf b t) (h1 : ∀ k, ¬ k = 29 → t.1 k = s.1 k) (h2 : ∀ a i, ¬ (44 ≤ a ∧ a ≤ 46) → t.2 a i = s.2 a i) : n_BI b t D H O Q z := by
  obtain ⟨a0, a1, a2, a3, a4, a5, a6⟩ := h
  have e47 : t.2 47 = s.2 47 := funext (fun i => h2 47 i (by decide))
  have eM : n_M t = n_M s := by
    funext q
    unfold n_M
    rw [h1 34 (by decide), show t.2 50 = s.2 50 from funext (fun i => h2 50 i (by decide))]
  refine ⟨hb, ?_, n_sm_GF ⟨⟨h1 17 (by decide), h1 18 (by decide), h1 33 (by decide)⟩, fun a i ha => h2 a i (by omega)⟩ a2, ?_, ?_, ?_, ?_⟩
  · unfold n_GZ at *
    rw [h1 30 (by decide), h1 28 (by decide)]
    exact a1
  · unfold n_GN at *
    rw [h1 32 (by decide), show t.2 48 = s.2 48 from funext (fun i => h2 48 i (by decide))]
    exact a3
  · unfold n_GD at *
    rw [h1 31 (by decide), h1 30 (by decide)]
    exact a4
  · rw [e47, eM]
    exact a5
  · unfold n_MK at *
    rw [h1 34 (by decide), h1 30 (by decide), e47, show t.2 50 = s.2 50 from funext (fun i => h2 50 i (by decide)), show t.2 51 = s.2 51 from funext (fun i => h2 51 i (by decide))]
    exact a6
theorem n_BI_push {x y k : Int} (h : n_BI b s D H O Q z) : n_BI b (n_push s k x y) D H O Q z := by
  refine n_BI_t h (n_bf_push h.1) (fun j hj => ?_) (fun a i ha => ?_)
  · show n_upd s.1 29 _ j = _
    rw [n_u_ne hj]
  · show n_updA (n_updA (n_updA s.2 44 _ _) 45 _ _) 46 _ _ a i = _
    rw [n_ua_ne (by omega), n_ua_ne (by omega), n_ua_ne (by omega)]
theorem n_BI_pop {x : Int} (h : n_BI b s D H O Q z) : n_BI b (n_upd s.1 29 x, s.2) D H O Q z := n_BI_t h (n_bf_pop h.1) (fun j hj => n_u_ne hj) (fun _ _ _ => rfl)
theorem n_E_push {x y k i v : Int} {w : Nat} (hi : i ≤ s.1 29) (h0 : 0 ≤ s.1 29) : n_E i v w s D H O (n_push s k x y) D H O := by
  have e : ∀ a j, ¬ (44 ≤ a ∧ a ≤ 46) → (n_push s k x y).2 a j = s.2 a j := fun a j ha => by
    show n_updA (n_updA (n_updA s.2 44 _ _) 45 _ _) 46 _ _ a j = _
    rw [n_ua_ne (by omega), n_ua_ne (by omega), n_ua_ne (by omega)]
  refine ⟨n_sm_old ⟨⟨rfl, rfl, rfl⟩, fun a j ha => e a j (by omega)⟩, Int.le_refl _, fun j _ => e 47 j (by decide), fun _ _ => rfl, fun j hj => ⟨?_, ?_, ?_⟩, fun k _ => e 49 k (by decide)⟩
  · show n_updA s.2 44 (s.1 29).toNat k 44 j = _
    rw [n_ua_eq, if_neg (by omega)]
  · show n_updA s.2 45 (s.1 29).toNat x 45 j = _
    rw [n_ua_eq, if_neg (by omega)]
  · show n_updA s.2 46 (s.1 29).toNat y 46 j = _
    rw [n_ua_eq, if_neg (by omega)]
theorem n_E_pop {x i v : Int} {w : Nat} : n_E i v w s D H O (n_upd s.1 29 x, s.2) D H O := ⟨n_sm_old ⟨⟨rfl, rfl, rfl⟩, fun _ _ _ => rfl⟩, Int.le_refl _, fun _ _ => rfl, fun _ _ => rfl, fun _ _ => ⟨rfl, rfl, rfl⟩, fun _ _ => rfl⟩
theorem n_pushed {x y k : Int} (hi : s.1 29 = (i : Int)) : (n_push s k x y).1 29 = (i : Int) + 1 ∧ (n_push s k x y).2 44 i = k ∧ (n_push s k x y).2 45 i = x ∧ (n_push s k x y).2 46 i = y := by
  refine ⟨?_, ?_, ?_, ?_⟩
  · show s.1 29 + 1 = _
    omega
  · show n_updA s.2 44 (s.1 29).toNat k 44 i = _
    rw [n_ua_eq, if_pos (by omega)]
  · show n_updA s.2 45 (s.1 29).toNat x 45 i = _
    rw [n_ua_eq, if_pos (by omega)]
  · show n_updA s.2 46 (s.1 29).toNat y 46 i = _
    rw [n_ua_eq, if_pos (by omega)]
/-- a step of code is put behind: the whole -/
theorem n_BI_app {e : Int} (h : n_BI b s D H O Q z) (hb : n_bf b t) (hw : 1 ≤ w) (h30 : t.1 30 = ((z + w : Nat) : Int)) (hzw : z + w ≤ 200) (h28 : t.1 28 = 0) (h31 : t.1 31 = e) (he : 0 ≤ e) (h2e : 2 * e ≤ 8 + ((z + w : Nat) : Int)) (h1 : ∀ k, ¬ (28 ≤ k ∧ k ≤ 31) → t.1 k = s.1 k) (h2 : ∀ a i, ¬ (44 ≤ a ∧ a ≤ 47) → t.2 a i = s.2 a i) (hc : ∀ j, j < z → t.2 47 j = s.2 47 j) (hQ : ∀ q, Q q → Q' q) (hn : n_cv (t.2 47) (z + w) (n_upd D (z + w) e) Q' (n_M s) z) : n_BI b t (n_upd D (z + w) e) H O Q' (z + w) := by
  obtain ⟨a0, a1, a2, a3, a4, a5, a6⟩ := h
  have eM : n_M t = n_M s := by
    funext q
    unfold n_M
    rw [h1 34 (by decide), show t.2 50 = s.2 50 from funext (fun i => h2 50 i (by decide))]
  refine ⟨hb, ⟨h30, hzw, h28⟩, n_sm_GF ⟨⟨h1 17 (by decide), h1 18 (by decide), h1 33 (by decide)⟩, fun a i ha => h2 a i (by omega)⟩ a2, ?_, ⟨?_, ?_, ?_⟩, ?_, ?_⟩
  · unfold n_GN at *
    rw [h1 32 (by decide), show t.2 48 = s.2 48 from funext (fun i => h2 48 i (by decide))]
    exact a3
  · rw [h31, n_u_eq]
  · rw [h31]; exact he
  · rw [h31, h30]; exact h2e
  · rw [eM]
    exact n_BC_app a5 hw hc hQ (fun _ h => h) hn
  · obtain ⟨m1, m2⟩ := a6
    have hz := a1.1
    refine ⟨?_, fun j hj => ?_⟩
    · rw [h1 34 (by decide), h30]
      omega
    · rw [h1 34 (by decide)] at hj
      obtain ⟨n1, p, n2, n3, n4, n5⟩ := m2 j hj
      refine ⟨by rw [h2 51 _ (by decide)]; exact n1, p, by rw [h2 50 _ (by decide)]; exact n2, by rw [h30]; omega, ?_, ?_⟩
      · rw [n_u_ne (by omega)]
        exact n4
      · rw [hc p (by omega)]
        exact n5
/-- and what stays then -/
theorem n_E_app {e i v : Int} {y : Nat} (h1 : ∀ k, ¬ (28 ≤ k ∧ k ≤ 31) → t.1 k = s.1 k) (h2 : ∀ a i, ¬ (44 ≤ a ∧ a ≤ 47) → t.2 a i = s.2 a i) (hc : ∀ j, j < z → t.2 47 j = s.2 47 j) (hw : 1 ≤ w) (hy : y ≤ z) (ht : ∀ j : Nat, (j : Int) < i → t.2 44 j = s.2 44 j ∧ t.2 45 j = s.2 45 j ∧ t.2 46 j = s.2 46 j) : n_E i v y s D H O t (n_upd D (z + w) e) H O := by
  refine ⟨n_sm_old ⟨⟨h1 17 (by decide), h1 18 (by decide), h1 33 (by decide)⟩, fun a i ha => h2 a i (by omega)⟩, by rw [h1 33 (by decide)]; exact Int.le_refl _, fun j hj => hc j (by omega), fun j hj => n_u_ne (by omega), ht, fun k _ => h2 49 k (by decide)⟩
end N39
