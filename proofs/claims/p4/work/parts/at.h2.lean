/-! THE READER'S STATE -/
def c_AT (s : cS) (q L : Nat) : Prop := match q with
  | 0 => s.2.1 3 3 = none
  | 1 => ∃ a, s.2.1 3 3 = some a ∧ s.1 a 0 = 0 ∧ s.1 3 4 = L ∧ 1 ≤ L ∧ L ≤ 4
  | 2 => ∃ a, s.2.1 3 3 = some a ∧ s.1 a 0 = 1 ∧ 97 ≤ s.1 a 1 % 256 ∧ s.1 3 4 = L ∧ 1 ≤ L ∧ L ≤ 4
  | 3 => ∃ a, s.2.1 3 3 = some a ∧ s.1 a 0 = 1 ∧ s.1 a 1 = 45
  | _ => ∃ a, s.2.1 3 3 = some a ∧ s.1 a 0 = 1 ∧ ¬ s.1 a 1 = 45 ∧ s.1 a 1 % 256 < 97
section H3
variable {X : Nat → mm_O} {Z : Nat → List Int32} {d q L : Nat} {s s' t : cS} {a b : Nat} {v k : Int}
theorem c_a3 (h : c_ok s) (ha : cT s a = 3) : 3 ≠ a := fun e => by
  have t3 : cT s 3 = 6 := c_t h (3, 6) (by decide)
  rw [e, ha] at t3
  exact absurd t3 (by decide)
theorem c_u_at {i : Nat} {x : Int} : (c_uA s a i x).1 a i = x := by
  show n_updA s.1 a i x a i = x
  rw [n_ua_eq, if_pos rfl]
theorem c_u_n2 {i j : Nat} {x : Int} (h : j ≠ i) : (c_uA s a i x).1 a j = s.1 a j := by
  show n_updA s.1 a i x a j = _
  rw [n_ua_eq, if_neg h]
/-- addsDigit, behind the minus -/
theorem cx32 (hd : 6 ≤ d) (h : c_ok s) (ha : s.2.1 3 3 = some a) : CG X Z d 32 [kQ (some 3), kI k] s (fun r s' => (r = .inl (some (kI 1)) ∧ c_RP s s' 0 0 ∧ s'.2 = s.2 ∧ s'.1 3 1 = s.1 3 1 ∧ s'.1 a 0 = 0 ∧ ((s.1 a 0 = 1 ∧ s.1 a 1 = 45 ∧ s'.1 3 4 = 1) ∨ (s.1 a 0 = 0 ∧ ¬ s.1 3 4 = 4 ∧ s'.1 3 4 = c_w (s.1 3 4 + 1)))) ∨ (r = .inl (some (kI 0)) ∧ s' = s ∧ ¬ (s.1 a 0 = 1 ∧ s.1 a 1 = 45) ∧ (¬ s.1 a 0 = 0 ∨ s.1 3 4 = 4))) := by
  have t3 : cT s 3 = 6 := c_t h (3, 6) (by decide)
  have ta : cT s a = 3 := h.2.2.2.2.2.1 a ha
  have n3 := c_a3 h ta
  generalize hPost : (fun (r : cA) (s' : cS) => (r = .inl (some (kI 1)) ∧ c_RP s s' 0 0 ∧ s'.2 = s.2 ∧ s'.1 3 1 = s.1 3 1 ∧ s'.1 a 0 = 0 ∧ ((s.1 a 0 = 1 ∧ s.1 a 1 = 45 ∧ s'.1 3 4 = 1) ∨ (s.1 a 0 = 0 ∧ ¬ s.1 3 4 = 4 ∧ s'.1 3 4 = c_w (s.1 3 4 + 1)))) ∨ (r = .inl (some (kI 0)) ∧ s' = s ∧ ¬ (s.1 a 0 = 1 ∧ s.1 a 1 = 45) ∧ (¬ s.1 a 0 = 0 ∨ s.1 3 4 = 4))) = Post
  have h49 : ∀ t, c_RP s t 0 0 → t.2 = s.2 → (t.1 a 0 = 0 → ¬ t.1 3 4 = 4 → ∀ w, Post (.inl (some (kI 1))) (c_uA (c_uA t a 1 (c_w w)) 3 4 (c_w (t.1 3 4 + 1)))) → ((¬ t.1 a 0 = 0 ∨ t.1 3 4 = 4) → Post (.inl (some (kI 0))) t) → CP X Z d 32 49 [some (kQ (some 3)), some (kI k)] [] t Post := by
    intro t ht e2 K1 K0
    have t3 : cT t 3 = 6 := c_t ht.1 (3, 6) (by decide)
    have ea : t.2.1 3 3 = some a := by rw [e2]; exact ha
    have ta : cT t a = 3 := ht.1.2.2.2.2.2.1 a ea
    have h67 : (¬ t.1 a 0 = 0 ∨ t.1 3 4 = 4) → CP X Z d 32 67 [some (kQ (some 3)), some (kI k)] [] t Post := fun hz => c_at nb32_67 hd rfl ⟨Or.inl rfl, K0 hz⟩
    refine c_at nb32_49 hd rfl ⟨3, rfl, t3, a, ea, ta, ht.1.1 _ _, fun z => h67 (Or.inl z), fun z => ⟨3, rfl, t3, ht.1.1 _ _, ⟨by decide, by decide⟩, fun z2 => ?_, fun z2 => h67 (Or.inr z2)⟩⟩
    have z : t.1 a 0 = 0 := z
    have h96 : ∀ x y : Int, CP X Z d 32 96 [some (kQ (some 3)), some (kI k)] [kI x, kI y, kQ (t.2.1 3 3)] t Post := by
      intro x y
      have e34 : (c_uA t a 1 (c_w (y + x))).1 3 4 = t.1 3 4 := c_uA_ne n3
      refine c_at nb32_96 hd rfl ⟨a, ea, ta, 3, rfl, t3, 3, rfl, t3, Or.inr rfl, ?_⟩
      rw [e34]
      exact K1 z z2 (y + x)
    exact c_at nb32_69 hd rfl ⟨3, rfl, t3, 3, rfl, t3, a, ea, ta, 3, rfl, t3, ht.1.1 _ _, fun _ => c_at nb32_95 hd rfl (h96 _ _), fun _ => h96 _ _⟩
  have h0 : ¬ (s.1 a 0 = 1 ∧ s.1 a 1 = 45) → CP X Z d 32 49 [some (kQ (some 3)), some (kI k)] [] s Post := by
    intro hn
    refine h49 s (c_RP_rf h) rfl (fun k1 k2 w => ?_) (fun k1 => ?_)
    · rw [← hPost]
      have q1 := c_RP_uf h ta (j := 1) (x := w)
      have q2 := c_RP_u3 (j := 4) (x := c_w (s.1 3 4 + 1)) q1.1 (c_w_rg _) (fun e => by cases e)
      refine Or.inl ⟨rfl, c_RP_tr q1 q2, rfl, ?_, ?_, Or.inr ⟨k1, k2, ?_⟩⟩
      · rw [c_u_n2 (by decide), c_uA_ne n3]
      · rw [c_uA_ne (Ne.symm n3), c_u_n2 (by decide)]
        exact k1
      · rw [c_u_at]
    · rw [← hPost]
      exact Or.inr ⟨rfl, rfl, hn, k1⟩
  have q1 := c_RP_uf h ta (j := 0) (x := 0)
  have q2 := c_RP_uf q1.1 (show cT (c_uA s a 0 (c_w 0)) a = 3 from ta) (j := 1) (x := 0)
  have q3 := c_RP_u3 q2.1 (j := 4) (c_w_rg 0) (fun e => by cases e)
  have q4 := c_RP_u3 q3.1 (j := 5) (x := 1) ⟨by decide, by decide⟩ (fun e => by cases e)
  have q5 := c_RP_tr q1 (c_RP_tr q2 (c_RP_tr q3 q4))
  refine c_G_of (L := [some (kQ (some 3)), some (kI k)]) (by rw [nl32]; exact Nat.le_of_ble_eq_true rfl) (by rw [nl32]; rfl) ?_
  refine c_at nb32_0 hd rfl ⟨3, rfl, t3, a, ha, ta, h.1 _ _, ⟨by decide, by decide⟩, fun z => h0 (fun e => z e.1), fun z => ⟨3, rfl, t3, a, ha, ta, h.1 _ _, ⟨by decide, by decide⟩, fun z2 => h0 (fun e => z2 e.2), fun z2 => ⟨3, rfl, t3, a, ha, ta, 3, rfl, t3, a, ha, ta, 3, rfl, t3, 3, rfl, t3, Or.inr rfl, ?_⟩⟩⟩
  have z : s.1 a 0 = 1 := z
  have z2 : s.1 a 1 = 45 := z2
  have f0 : (c_uA (c_uA (c_uA (c_uA s a 0 (c_w 0)) a 1 (c_w 0)) 3 4 (c_w 0)) 3 5 1).1 a 0 = 0 := by
    show n_updA (n_updA (n_updA (n_updA s.1 a 0 (c_w 0)) a 1 (c_w 0)) 3 4 (c_w 0)) 3 5 1 a 0 = 0
    rw [n_ua_ne (Ne.symm n3), n_ua_ne (Ne.symm n3), n_ua_eq, if_neg (by decide), n_ua_eq, if_pos rfl]
    decide
  have f4 : (c_uA (c_uA (c_uA (c_uA s a 0 (c_w 0)) a 1 (c_w 0)) 3 4 (c_w 0)) 3 5 1).1 3 4 = 0 := by
    show n_updA (n_updA (n_updA (n_updA s.1 a 0 (c_w 0)) a 1 (c_w 0)) 3 4 (c_w 0)) 3 5 1 3 4 = 0
    rw [n_ua_eq, if_neg (by decide), n_ua_eq, if_pos rfl]
    decide
  have f1 : (c_uA (c_uA (c_uA (c_uA s a 0 (c_w 0)) a 1 (c_w 0)) 3 4 (c_w 0)) 3 5 1).1 3 1 = s.1 3 1 := by
    show n_updA (n_updA (n_updA (n_updA s.1 a 0 (c_w 0)) a 1 (c_w 0)) 3 4 (c_w 0)) 3 5 1 3 1 = _
    rw [n_ua_eq, if_neg (by decide), n_ua_eq, if_neg (by decide), n_ua_ne n3, n_ua_ne n3]
  have f2 : (c_uA (c_uA (c_uA (c_uA s a 0 (c_w 0)) a 1 (c_w 0)) 3 4 (c_w 0)) 3 5 1).2 = s.2 := rfl
  generalize c_uA (c_uA (c_uA (c_uA s a 0 (c_w 0)) a 1 (c_w 0)) 3 4 (c_w 0)) 3 5 1 = S at *
  refine h49 S q5 f2 (fun k1 k2 w => ?_) (fun k1 => ?_)
  · rw [← hPost]
    have tS : cT S a = 3 := by rw [c_T2 f2]; exact ta
    have q6 := c_RP_uf q5.1 tS (j := 1) (x := w)
    have q7 := c_RP_u3 (j := 4) (x := c_w (S.1 3 4 + 1)) q6.1 (c_w_rg _) (fun e => by cases e)
    refine Or.inl ⟨rfl, c_RP_tr q5 (c_RP_tr q6 q7), f2, ?_, ?_, Or.inl ⟨z, z2, ?_⟩⟩
    · rw [c_u_n2 (by decide), c_uA_ne n3]
      exact f1
    · rw [c_uA_ne (Ne.symm n3), c_u_n2 (by decide)]
      exact f0
    · rw [c_u_at, f4]
      decide
  · exfalso
    rcases k1 with k1 | k1
    · exact k1 f0
    · rw [f4] at k1
      exact absurd k1 (by decide)
/-- lengthensAtom -/
def c_LA (s : cS) (q L : Nat) (k : Int) (r : cA) (s' : cS) : Prop := (r = .inl (some (kI 1)) ∧ c_ext q L k = true ∧ c_RP s s' 0 0 ∧ s'.2 = s.2 ∧ s'.1 3 1 = s.1 3 1 ∧ c_AT s' (c_nq q) (c_nL q L)) ∨ (r = .inl (some (kI 0)) ∧ ¬ c_ext q L k = true ∧ s' = s)
theorem c_AT_a (h : c_AT s q L) (hq : ¬ q = 0) : ∃ a, s.2.1 3 3 = some a := by
  unfold c_AT at h
  split at h
  · exact absurd rfl hq
  · obtain ⟨a, h, -⟩ := h; exact ⟨a, h⟩
  · obtain ⟨a, h, -⟩ := h; exact ⟨a, h⟩
  · obtain ⟨a, h, -⟩ := h; exact ⟨a, h⟩
  · obtain ⟨a, h, -⟩ := h; exact ⟨a, h⟩
theorem c_AT_0 (h : c_AT s q L) (h0 : s.2.1 3 3 = none) : q = 0 := by
  apply Classical.byContradiction
  intro hq
  obtain ⟨a, ha⟩ := c_AT_a h hq
  rw [h0] at ha
  cases ha
/-- a digit comes -/
theorem c_LAd {r : cA} (h : c_AT s q L) (ha : s.2.1 3 3 = some a) (hk : c_dig k = true) (hr : (r = .inl (some (kI 1)) ∧ c_RP s s' 0 0 ∧ s'.2 = s.2 ∧ s'.1 3 1 = s.1 3 1 ∧ s'.1 a 0 = 0 ∧ ((s.1 a 0 = 1 ∧ s.1 a 1 = 45 ∧ s'.1 3 4 = 1) ∨ (s.1 a 0 = 0 ∧ ¬ s.1 3 4 = 4 ∧ s'.1 3 4 = c_w (s.1 3 4 + 1)))) ∨ (r = .inl (some (kI 0)) ∧ s' = s ∧ ¬ (s.1 a 0 = 1 ∧ s.1 a 1 = 45) ∧ (¬ s.1 a 0 = 0 ∨ s.1 3 4 = 4))) : c_LA s q L k r s' := by
  have hlet : ¬ c_let k = true := fun e => by
    have h1 := of_decide_eq_true hk
    have h2 := of_decide_eq_true e
    omega
  unfold c_AT at h
  split at h
  · rw [h] at ha; cases ha
  · obtain ⟨b, hb, h0, h4, h5⟩ := h
    have eb : b = a := by rw [ha] at hb; exact (Option.some.inj hb).symm
    subst eb
    rcases hr with ⟨e1, e2, e3, e4, e5, ⟨e6, -, -⟩ | ⟨-, e7, e8⟩⟩ | ⟨e1, e2, e3, e4 | e4⟩
    · rw [h0] at e6
      exact absurd e6 (by decide)
    · have hL : L < 4 := by omega
      refine Or.inl ⟨e1, c_ext_iff.mpr (Or.inl ⟨rfl, hk, hL⟩), e2, e3, e4, b, by rw [e3]; exact ha, e5, ?_, ?_⟩
      · rw [e8, h4, c_w_id ⟨by omega, by omega⟩]
        show (L : Int) + 1 = ((L + 1 : Nat) : Int)
        omega
      · show 1 ≤ L + 1 ∧ L + 1 ≤ 4
        omega
    · exact absurd h0 e4
    · refine Or.inr ⟨e1, fun e => ?_, e2⟩
      rcases c_ext_iff.mp e with ⟨-, -, e6⟩ | ⟨e6, -⟩ | ⟨e6, -⟩
      · omega
      · exact absurd e6 (by decide)
      · exact absurd e6 (by decide)
  · obtain ⟨b, hb, h0, h1, h4, h5⟩ := h
    have eb : b = a := by rw [ha] at hb; exact (Option.some.inj hb).symm
    subst eb
    rcases hr with ⟨e1, e2, e3, e4, e5, ⟨-, e6, -⟩ | ⟨e7, -⟩⟩ | ⟨e1, e2, -⟩
    · rw [e6] at h1
      exact absurd h1 (by decide)
    · rw [h0] at e7
      exact absurd e7 (by decide)
    · refine Or.inr ⟨e1, fun e => ?_, e2⟩
      rcases c_ext_iff.mp e with ⟨e6, -⟩ | ⟨-, e6, -⟩ | ⟨e6, -⟩
      · exact absurd e6 (by decide)
      · exact hlet e6
      · exact absurd e6 (by decide)
  · obtain ⟨b, hb, h0, h1⟩ := h
    have eb : b = a := by rw [ha] at hb; exact (Option.some.inj hb).symm
    subst eb
    rcases hr with ⟨e1, e2, e3, e4, e5, ⟨-, -, e8⟩ | ⟨e7, -⟩⟩ | ⟨e1, e2, e3, -⟩
    · exact Or.inl ⟨e1, c_ext_iff.mpr (Or.inr (Or.inr ⟨rfl, hk⟩)), e2, e3, e4, b, by rw [e3]; exact ha, e5, e8, Nat.le_refl 1, show 1 ≤ 4 by decide⟩
    · rw [h0] at e7
      exact absurd e7 (by decide)
    · exact absurd ⟨h0, h1⟩ e3
  · rename_i n0 n1 n2 n3
    obtain ⟨b, hb, h0, h1, h2⟩ := h
    have eb : b = a := by rw [ha] at hb; exact (Option.some.inj hb).symm
    subst eb
    rcases hr with ⟨e1, e2, e3, e4, e5, ⟨-, e6, -⟩ | ⟨e7, -⟩⟩ | ⟨e1, e2, -⟩
    · exact absurd e6 h1
    · rw [h0] at e7
      exact absurd e7 (by decide)
    · refine Or.inr ⟨e1, fun e => ?_, e2⟩
      rcases c_ext_iff.mp e with ⟨e6, -⟩ | ⟨e6, -⟩ | ⟨e6, -⟩
      · exact n1 e6
      · exact n2 e6
      · exact n3 e6
/-- which atoms are of letters -/
theorem c_AT_l (h : c_AT s q L) (ha : s.2.1 3 3 = some a) : (s.1 a 0 = 1 ∧ 97 ≤ s.1 a 1 % 256) ↔ q = 2 := by
  unfold c_AT at h
  split at h
  · rw [h] at ha; cases ha
  · obtain ⟨b, hb, h0, h4, h5⟩ := h
    have eb : b = a := by rw [ha] at hb; exact (Option.some.inj hb).symm
    subst eb
    exact ⟨fun e => by have := e.1; omega, fun e => absurd e (by decide)⟩
  · obtain ⟨b, hb, h0, h1, h4, h5⟩ := h
    have eb : b = a := by rw [ha] at hb; exact (Option.some.inj hb).symm
    subst eb
    exact ⟨fun _ => rfl, fun _ => ⟨h0, h1⟩⟩
  · obtain ⟨b, hb, h0, h1⟩ := h
    have eb : b = a := by rw [ha] at hb; exact (Option.some.inj hb).symm
    subst eb
    exact ⟨fun e => by have := e.2; rw [h1] at this; exact absurd this (by decide), fun e => absurd e (by decide)⟩
  · rename_i n0 n1 n2 n3
    obtain ⟨b, hb, h0, h1, h2⟩ := h
    have eb : b = a := by rw [ha] at hb; exact (Option.some.inj hb).symm
    subst eb
    exact ⟨fun e => by have := e.2; omega, fun e => absurd e n2⟩
theorem cx30 (hd : 6 ≤ d) (h : c_ok s) (hA : c_AT s q L) (hk : 0 ≤ k ∧ k < 256) : CG X Z (d + 2) 30 [kQ (some 3), kI k] s (c_LA s q L k) := by
  have hkr : n_rng k := ⟨by omega, by omega⟩
  have t3 : cT s 3 = 6 := c_t h (3, 6) (by decide)
  refine c_G_of (L := [some (kQ (some 3)), some (kI k)]) (by rw [nl30]; exact Nat.le_of_ble_eq_true rfl) (by rw [nl30]; rfl) ?_
  refine c_at nb30_0 (by omega) rfl ⟨3, rfl, t3, fun z => ?_, fun z => ⟨Or.inl rfl, Or.inr ⟨rfl, fun e => ?_, rfl⟩⟩⟩
  · cases ea : s.2.1 3 3 with
    | none => exact absurd ea z
    | some a =>
      have ta : cT s a = 3 := h.2.2.2.2.2.1 a ea
      have n3 := c_a3 h ta
      have h50 : ¬ c_ext q L k = true → CP X Z (d + 2) 30 50 [some (kQ (some 3)), some (kI k)] [] s (c_LA s q L k) := fun hn => c_at nb30_50 (by omega) rfl ⟨Or.inl rfl, Or.inr ⟨rfl, hn, rfl⟩⟩
      refine c_at nb30_9 (by omega) rfl ?_
      refine c_is (d := d + 1) (vs := [kI k]) (r := []) nn31 (by simp) (cx31 (by omega) hkr) (fun r s' hr => ?_)
      rw [hr.1, hr.2]
      have h01 := c_T01 (c_dig k)
      refine ⟨⟨by omega, by omega⟩, fun z1 => ?_, fun z1 => ?_⟩
      · have z1 : n_T (c_dig k) = 0 := z1
        have hnd : ¬ c_dig k = true := fun e => by rw [c_Tt e] at z1; exact absurd z1 (by decide)
        refine c_at nb30_25 (by omega) rfl ?_
        refine c_is (d := d + 1) (vs := [kI k]) (r := []) nn33 (by simp) (cx33 (by omega) hkr) (fun r s' hr => ?_)
        rw [hr.1, hr.2]
        have h02 := c_T01 (c_let k)
        refine ⟨⟨by omega, by omega⟩, fun z2 => h50 (fun e => ?_), fun z2 => ⟨3, rfl, t3, ?_⟩⟩
        · have z2 : n_T (c_let k) = 0 := z2
          rcases c_ext_iff.mp e with ⟨-, e6, -⟩ | ⟨-, e6, -⟩ | ⟨-, e6⟩
          · exact hnd e6
          · rw [c_Tt e6] at z2
            exact absurd z2 (by decide)
          · exact hnd e6
        have z2 : ¬ n_T (c_let k) = 0 := z2
        have hlt : c_let k = true := by
          apply Classical.byContradiction
          intro hc
          exact z2 (c_Tf hc)
        show wc Z _ _ _ _ _ [kQ (s.2.1 3 3)] s
        rw [ea]
        refine c_iv (d := d + 1) (a := a) (vs := [kQ (some a)]) (r := []) nn34 (by simp) rfl nc34 ta (by decide) (cx34 hd ta h.1) (fun r s' hr => ?_)
        rw [hr.1, hr.2]
        have h03 := c_T01 (decide (s.1 a 0 = 1 ∧ 97 ≤ s.1 a 1 % 256))
        refine ⟨⟨by omega, by omega⟩, fun z3 => h50 (fun e => ?_), fun z3 => ⟨3, rfl, t3, h.1 _ _, ⟨by decide, by decide⟩, fun z4 => ?_, fun z4 => h50 (fun e => ?_)⟩⟩
        · have z3 : n_T (decide (s.1 a 0 = 1 ∧ 97 ≤ s.1 a 1 % 256)) = 0 := z3
          rcases c_ext_iff.mp e with ⟨-, e6, -⟩ | ⟨e6, -, -⟩ | ⟨-, e6⟩
          · exact hnd e6
          · rw [c_Tt (decide_eq_true ((c_AT_l hA ea).mpr e6))] at z3
            exact absurd z3 (by decide)
          · exact hnd e6
        · have z3 : ¬ n_T (decide (s.1 a 0 = 1 ∧ 97 ≤ s.1 a 1 % 256)) = 0 := z3
          have hq2 : q = 2 := (c_AT_l hA ea).mp (by
            apply Classical.byContradiction
            intro hc
            exact z3 (c_Tf (fun e => hc (of_decide_eq_true e))))
          have z4 : ¬ s.1 3 4 = 4 := z4
          subst hq2
          obtain ⟨b, hb, h0, h1, h4, h5⟩ := hA
          have hL : L < 4 := by omega
          have q1 := c_RP_uf h ta (j := 1) (x := n_or (n_shl (s.1 a 1) 8) k)
          have q2 := c_RP_u3 (j := 4) (x := c_w (s.1 3 4 + 1)) q1.1 (c_w_rg _) (fun e => by cases e)
          have e34 : (c_uA s a 1 (c_w (n_or (n_shl (s.1 a 1) 8) k))).1 3 4 = s.1 3 4 := c_uA_ne n3
          refine c_at nb30_52 (by omega) rfl ⟨3, rfl, t3, 3, rfl, t3, a, ea, ta, a, ea, ta, 3, rfl, t3, 3, rfl, t3, Or.inr rfl, ?_⟩
          rw [e34]
          refine Or.inl ⟨rfl, c_ext_iff.mpr (Or.inr (Or.inl ⟨rfl, hlt, hL⟩)), c_RP_tr q1 q2, rfl, ?_, a, ea, ?_, ?_, ?_, ?_⟩
          · rw [c_u_n2 (by decide), c_uA_ne n3]
          · rw [c_uA_ne (Ne.symm n3), c_u_n2 (by decide)]
            have eb : b = a := by rw [ea] at hb; exact (Option.some.inj hb).symm
            rw [← eb]
            exact h0
          · have hkl := of_decide_eq_true hlt
            have ew : c_w (n_or (n_shl (s.1 a 1) 8) k) = n_or (n_shl (s.1 a 1) 8) k := by
              unfold c_w n_or
              rw [n_back]
            rw [c_uA_ne (Ne.symm n3), c_u_at, ew, n_lo hk]
            exact hkl.1
          · rw [c_u_at, h4, c_w_id ⟨by omega, by omega⟩]
            show (L : Int) + 1 = ((L + 1 : Nat) : Int)
            omega
          · show 1 ≤ L + 1 ∧ L + 1 ≤ 4
            omega
        · have z4 : s.1 3 4 = 4 := z4
          rcases c_ext_iff.mp e with ⟨-, e6, -⟩ | ⟨e6, -, e7⟩ | ⟨-, e6⟩
          · exact hnd e6
          · subst e6
            obtain ⟨b, hb, h0, h1, h4, h5⟩ := hA
            omega
          · exact hnd e6
      · have z1 : ¬ n_T (c_dig k) = 0 := z1
        have hdg : c_dig k = true := by
          apply Classical.byContradiction
          intro hc
          exact z1 (c_Tf hc)
        refine c_iv (d := d + 1) (a := 3) (vs := [kQ (some 3), kI (k - 48)]) (r := []) nn32 (by simp) rfl nc32 t3 (by decide) (cx32 (by omega) h ea) (fun r s2 hr => ?_)
        have hL := c_LAd (k := k) hA ea hdg hr
        rcases hr with ⟨e1, -⟩ | ⟨e1, -⟩
        · rw [e1] at hL ⊢
          exact ⟨Or.inr rfl, hL⟩
        · rw [e1] at hL ⊢
          exact ⟨Or.inl rfl, hL⟩
  · have q0 := c_AT_0 hA z
    subst q0
    rcases c_ext_iff.mp e with ⟨e6, -⟩ | ⟨e6, -⟩ | ⟨e6, -⟩
    · exact absurd e6 (by decide)
    · exact absurd e6 (by decide)
    · exact absurd e6 (by decide)
end H3
