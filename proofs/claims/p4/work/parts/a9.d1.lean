/-! PLACES CHANGE, CELLS ARE MADE -/
def c_bd (s s' : cS) (x y : Nat) : Prop := (cq s).1 ≤ (cq s').1 + x ∧ (cq s).2 ≤ (cq s').2 + y ∧ cn s' + (cq s').1 ≤ cn s + (cq s).1
section D1
variable {X : Nat → mm_O} {Z : Nat → List Int32} {d : Nat} {s s' : cS} {a k : Nat} {o : Option Nat}
theorem c_T_R : cT (c_uR s a k o) = cT s := rfl
theorem c_N_R : cN (c_uR s a k o) = cN s := rfl
theorem c_R_at {b j : Nat} : (c_uR s a k o).2.1 b j = if b = a ∧ j = k then o else s.2.1 b j := rfl
theorem c_nn (hk : (cT s a = 1 ∨ cT s a = 7 ∨ cT s a = 9) → o ≠ none) {b j : Nat} (ht : cT s b = 1 ∨ cT s b = 7 ∨ cT s b = 9) (hn : s.2.1 b j ≠ none) : (c_uR s a k o).2.1 b j ≠ none := by
  rw [c_R_at]
  split
  · rename_i e
    rw [e.1] at ht
    exact hk ht
  · exact hn
theorem c_E_R (hk : (cT s a = 1 ∨ cT s a = 7 ∨ cT s a = 9) → o ≠ none) : c_E s (c_uR s a k o) := ⟨Nat.le_refl _, fun _ _ => ⟨rfl, rfl⟩, fun _ _ ht hn => c_nn hk ht hn⟩
theorem c_ok_R (h : c_ok s) (hf : ∀ p ∈ c_rfs, ¬ (p.1 = a ∧ p.2.1 = k)) (hw : c_Wa (c_uR s a k o) a) (hk : (cT s a = 1 ∨ cT s a = 7 ∨ cT s a = 9) → o ≠ none) (h17 : a = 17 → o ≠ none) (hR : c_sR (c_uR s a k o)) : c_ok (c_uR s a k o) := by
  obtain ⟨g, ⟨f1, f2, f3, f4⟩, w, ⟨a1, a2, a3, a4, a5, a6, a7⟩, r⟩ := h
  refine ⟨g, ⟨f1, fun p hp => ?_, f3, f4⟩, fun b => ?_, ⟨a1, a2, a3, a4, a5, a6, fun i hi => ?_⟩, hR⟩
  · rw [c_R_at, if_neg (hf p hp)]
    exact f2 p hp
  · by_cases hb : b = a
    · rw [hb]; exact hw
    · have e : ∀ j, (c_uR s a k o).2.1 b j = s.2.1 b j := fun j => by rw [c_R_at, if_neg (fun q => hb q.1)]
      obtain ⟨w1, w2, w3, w4, w5, w6, w7⟩ := w b
      have un : ∀ u, c_un s u → c_un (c_uR s a k o) u := fun u hu => ⟨hu.1, c_nn hk (Or.inr (Or.inr hu.1)) hu.2⟩
      refine ⟨fun ht c hc => ?_, w2, fun ht => ?_, fun ht hn => ?_, fun ht hn => ?_, fun ht i => ?_, fun ht i u hu => ?_⟩
      · rw [e] at hc
        exact w1 ht c hc
      · rw [e, e, e]
        exact w3 ht
      · rw [e] at hn
        obtain ⟨q1, q2, q3, q4⟩ := w4 ht hn
        rw [e, e, e]
        exact ⟨fun u hu => un u (q1 u hu), q2, fun c hc => ⟨(q3 c hc).1, c_nn hk (Or.inr (Or.inl (q3 c hc).1)) (q3 c hc).2⟩, q4⟩
      · rw [e] at hn
        obtain ⟨q1, q2, ⟨c, q3, q4, q5, q6⟩, ⟨c2, q7, q8, q9⟩, q10, q11⟩ := w5 ht hn
        rw [e, e, e, e, e, e]
        exact ⟨q1, q2, ⟨c, q3, q4, q5, c_nn hk (Or.inl q5) q6⟩, ⟨c2, q7, q8, c_nn hk (Or.inl q8) q9⟩, q10, q11⟩
      · rw [e]
        exact w6 ht i
      · rw [e] at hu
        exact un u (w7 ht i u hu)
  · rw [c_R_at]
    split
    · rename_i q
      exact h17 q.1.symm
    · exact a7 i hi
/-- a new cell -/
theorem c_T_new {t m : Nat} {b : Nat} : cT (c_new s t m) b = if b = cn s then t else cT s b := by
  unfold cT c_new c_up cn
  dsimp only
  by_cases hb : b = s.2.2.2.2.1
  · rw [if_pos (by omega), if_pos hb, if_pos hb]
  · rw [if_neg hb, if_neg hb]
    by_cases h2 : b < s.2.2.2.2.1
    · rw [if_pos (by omega), if_pos h2]
    · rw [if_neg (by omega), if_neg h2]
theorem c_N_new {t m : Nat} {b : Nat} : cN (c_new s t m) b = if b = cn s then m else cN s b := rfl
theorem c_lt_n {b t : Nat} (h : cT s b = t) (ht : t ≠ 99) : b ≠ cn s := by
  have := (cT_lt h ht).1
  unfold cn
  omega
theorem c_new_T {t m b u : Nat} (h : cT s b = u) (hu : u ≠ 99) : cT (c_new s t m) b = u := by
  rw [c_T_new, if_neg (c_lt_n h hu)]
  exact h
theorem c_new_R {t m b j : Nat} (hb : b ≠ cn s) : (c_new s t m).2.1 b j = s.2.1 b j := by
  show (if b = s.2.2.2.2.1 then _ else _) = _
  exact if_neg hb
theorem c_new_A {t m b j : Nat} (hb : b ≠ cn s) : (c_new s t m).1 b j = s.1 b j := by
  show (if b = s.2.2.2.2.1 then _ else _) = _
  exact if_neg hb
theorem c_new_Rn {t m j : Nat} : (c_new s t m).2.1 (cn s) j = none := by
  show (if s.2.2.2.2.1 = s.2.2.2.2.1 then _ else _) = _
  rw [if_pos rfl]
theorem c_new_An {t m j : Nat} : (c_new s t m).1 (cn s) j = 0 := by
  show (if s.2.2.2.2.1 = s.2.2.2.2.1 then _ else _) = _
  rw [if_pos rfl]
theorem c_E_new {t m : Nat} : c_E s (c_new s t m) := by
  refine ⟨by unfold cn c_new; dsimp only; omega, fun b hb => ⟨?_, ?_⟩, fun b j ht hn => ?_⟩
  · show c_up s.2.2.1 s.2.2.2.2.1 t b = _
    unfold c_up
    rw [if_neg (by unfold cn at hb; omega)]
  · rw [c_N_new, if_neg (by omega)]
  · rw [c_new_R]
    · exact hn
    · rcases ht with ht | ht | ht <;> exact c_lt_n ht (by decide)
theorem c_fo_E (h : c_E s s') (hf : c_fo s o) : c_fo s' o := fun b hb => c_E_T h (hf b hb) (by decide)
theorem c_un_E (h : c_E s s') {u : Nat} (hu : c_un s u) : c_un s' u := ⟨c_E_T h hu.1 (by decide), h.2.2 u 2 (Or.inr (Or.inr hu.1)) hu.2⟩
theorem c_rp_E (h : c_E s s') (hr : c_rp s o) : c_rp s' o := fun b hb => ⟨c_E_T h (hr b hb).1 (by decide), h.2.2 b 0 (Or.inr (Or.inl (hr b hb).1)) (hr b hb).2⟩
theorem c_ok_new {t m : Nat} (h : c_ok s) (ht : t < 10 ∨ t = 20) (hm : t = 20 → m < 99999) : c_ok (c_new s t m) := by
  have hE : c_E s (c_new s t m) := c_E_new
  obtain ⟨g, ⟨f1, f2, f3, f4⟩, w, ⟨a1, a2, a3, a4, a5, a6, a7⟩, r1, r2, r3, r4⟩ := h
  have hsm : ∀ b, b < 59 → b ≠ cn s := fun b hb => by omega
  have e : ∀ b j, b < 59 → (c_new s t m).1 b j = s.1 b j := fun b j hb => c_new_A (hsm b hb)
  have e2 : ∀ b j, b < 59 → (c_new s t m).2.1 b j = s.2.1 b j := fun b j hb => c_new_R (hsm b hb)
  have hr59 : ∀ p ∈ c_rfs, p.1 < 59 := by decide
  have hl59 : ∀ p ∈ c_lns, p.1 < 59 := by decide
  have ht99 : ∀ p ∈ c_tgs, p.2 ≠ 99 := by decide
  refine ⟨fun b j => ?_, ⟨fun p hp => c_new_T (f1 p hp) (ht99 p hp), fun p hp => by rw [e2 _ _ (hr59 p hp)]; exact f2 p hp, fun p hp => by rw [c_N_new, if_neg (hsm _ (hl59 p hp))]; exact f3 p hp, Nat.le_trans f4 hE.1⟩, fun b => ?_, ⟨by rw [e 3 1 (by decide)]; exact a1, by rw [e 5 1 (by decide)]; exact a2, by rw [e 7 5 (by decide)]; exact a3, by rw [e 7 8 (by decide)]; exact a4, by rw [e 7 9 (by decide)]; exact a5, by rw [e 16 3 (by decide)]; exact a6, fun i hi => by rw [e 16 3 (by decide)] at hi; rw [e2 17 i (by decide)]; exact a7 i hi⟩, by rw [e2 3 2 (by decide)]; exact c_fo_E hE r1, by rw [e2 3 3 (by decide)]; exact c_fo_E hE r2, by rw [e2 7 10 (by decide)]; exact c_fo_E hE r3, by rw [e2 7 11 (by decide)]; exact c_rp_E hE r4⟩
  · by_cases hb : b = cn s
    · rw [hb, c_new_An]; exact ⟨by decide, by decide⟩
    · rw [c_new_A hb]; exact g b j
  · by_cases hb : b = cn s
    · rw [hb]
      refine ⟨fun _ c hc => ?_, fun _ => ?_, fun _ => ⟨fun c hc => ?_, fun c hc => ?_, fun c hc => ?_, fun c hc => ?_⟩, fun _ hn => absurd c_new_Rn hn, fun _ hn => absurd c_new_Rn hn, fun _ i c hc => ?_, fun _ i c hc => ?_⟩
      · rw [c_new_Rn] at hc; cases hc
      · rename_i h20
        rw [c_T_new, if_pos rfl] at h20
        rw [c_N_new, if_pos rfl]
        exact hm h20
      · rw [c_new_Rn] at hc; cases hc
      · rw [c_new_Rn] at hc; cases hc
      · rw [c_new_Rn] at hc; cases hc
      · rw [c_new_Rn] at hc; cases hc
      · rw [c_new_Rn] at hc; cases hc
      · rw [c_new_Rn] at hc; cases hc
    · have eR : ∀ j, (c_new s t m).2.1 b j = s.2.1 b j := fun j => c_new_R hb
      have eT : cT (c_new s t m) b = cT s b := by rw [c_T_new, if_neg hb]
      obtain ⟨w1, w2, w3, w4, w5, w6, w7⟩ := w b
      unfold c_Wa
      rw [eT]
      refine ⟨fun q c hc => ?_, fun q => ?_, fun q => ?_, fun q hn => ?_, fun q hn => ?_, fun q i => ?_, fun q i u hu => ?_⟩
      · rw [eR] at hc
        obtain ⟨v1, v2⟩ := w1 q c hc
        refine ⟨c_new_T v1 (by decide), ?_⟩
        rw [c_new_A hb, c_N_new, if_neg (c_lt_n v1 (by decide))]
        exact v2
      · rw [c_N_new, if_neg hb]; exact w2 q
      · obtain ⟨v1, v2, v3, v4⟩ := w3 q
        rw [eR, eR, eR]
        exact ⟨c_fo_E hE v1, c_fo_E hE v2, c_fo_E hE v3, v4⟩
      · rw [eR] at hn
        obtain ⟨v1, v2, v3, v4⟩ := w4 q hn
        rw [eR, eR, eR]
        exact ⟨fun u hu => c_un_E hE (v1 u hu), c_fo_E hE v2, c_rp_E hE v3, v4⟩
      · rw [eR] at hn
        obtain ⟨⟨p, v1, v2⟩, v3, ⟨c, v4, v5, v6, v7⟩, ⟨c2, v8, v9, v10⟩, ⟨p2, v11, v12⟩, ⟨p3, v13, v14⟩⟩ := w5 q hn
        rw [eR, eR, eR, eR, eR, eR]
        exact ⟨⟨p, v1, c_new_T v2 (by decide)⟩, c_fo_E hE v3, ⟨c, v4, v5, c_new_T v6 (by decide), hE.2.2 c 0 (Or.inl v6) v7⟩, ⟨c2, v8, c_new_T v9 (by decide), hE.2.2 c2 0 (Or.inl v9) v10⟩, ⟨p2, v11, c_new_T v12 (by decide)⟩, ⟨p3, v13, c_new_T v14 (by decide)⟩⟩
      · rw [eR]; exact c_fo_E hE (w6 q i)
      · rw [eR] at hu; exact c_un_E hE (w7 q i u hu)
/-- a number of a form, or of a fixed object -/
theorem c_ok_uf (h : c_ok s) {x : Int} (ha : cT s a = 3) : c_ok (c_uA s a k (c_w x)) := by
  have hne : ∀ p ∈ c_tgs, p.2 ≠ 3 → p.1 ≠ a := fun p hp h3 e => by
    have := c_t h p hp
    rw [e, ha] at this
    exact h3 this.symm
  have e : ∀ p ∈ c_tgs, p.2 ≠ 3 → ∀ j, (c_uA s a k (c_w x)).1 p.1 j = s.1 p.1 j := fun p hp h3 j => by
    show n_updA s.1 a k _ p.1 j = _
    rw [n_ua_ne (hne p hp h3)]
  exact c_ok_u h (c_w_rg _) ha (by decide) (c_sA_of h.2.2.2.1 (e (3, 6) (by decide) (by decide) 1) (e (5, 8) (by decide) (by decide) 1) (e (7, 2) (by decide) (by decide) 5) (e (7, 2) (by decide) (by decide) 8) (e (7, 2) (by decide) (by decide) 9) (e (16, 4) (by decide) (by decide) 3) rfl)
theorem c_tx_u {x : Int} (ha : a ≠ 0 ∧ a ≠ 1 ∧ a ≠ 2) : c_tx s (c_uA s a k x) := by
  refine ⟨?_, fun i => ?_, ?_⟩
  · show n_updA s.1 a k x 1 1 = _
    rw [n_ua_ne (Ne.symm ha.2.1)]
  · show n_updA s.1 a k x 2 i = _
    rw [n_ua_ne (Ne.symm ha.2.2)]
  · show n_updA s.1 a k x 0 6 = _
    rw [n_ua_ne (Ne.symm ha.1)]
theorem c_tx_tr {s2 : cS} (h : c_tx s s') (g : c_tx s' s2) : c_tx s s2 := ⟨g.1.trans h.1, fun i => (g.2.1 i).trans (h.2.1 i), g.2.2.trans h.2.2⟩
theorem c_tx_rf : c_tx s s := ⟨rfl, fun _ => rfl, rfl⟩
theorem c_tx_new (h : c_ok s) {t m : Nat} : c_tx s (c_new s t m) := by
  have h59 : 59 ≤ cn s := h.2.1.2.2.2
  exact ⟨c_new_A (by omega), fun i => c_new_A (by omega), c_new_A (by omega)⟩
theorem c_bd_tr {s2 : cS} {x y x2 y2 : Nat} (h : c_bd s s' x y) (g : c_bd s' s2 x2 y2) : c_bd s s2 (x + x2) (y + y2) := by
  unfold c_bd at *
  omega
theorem c_fn (h : c_ok s) (ha : cT s a = 3) : a ≠ 0 ∧ a ≠ 1 ∧ a ≠ 2 ∧ a ≠ 3 ∧ a ≠ 7 ∧ a ≠ 17 ∧ ∀ p ∈ c_tgs, p.1 ≠ a := by
  have hne : ∀ p ∈ c_tgs, p.1 ≠ a := fun p hp e => by
    have := c_t h p hp
    rw [e, ha] at this
    have h3 : ∀ p ∈ c_tgs, p.2 ≠ 3 := by decide
    exact h3 p hp this.symm
  exact ⟨fun e => hne (0, 0) (by decide) e.symm, fun e => hne (1, 1) (by decide) e.symm, fun e => hne (2, 20) (by decide) e.symm, fun e => hne (3, 6) (by decide) e.symm, fun e => hne (7, 2) (by decide) e.symm, fun e => hne (17, 31) (by decide) e.symm, hne⟩
end D1
