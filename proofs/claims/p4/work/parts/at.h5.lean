/-! THE CLASS READS WHAT THE REFERENCE READS -/
section H6
variable {X : Nat → mm_O} {Z : Nat → List Int32} {d : Nat} {s t : cS} {ch : Int → Int} {W : Int}
def c_RD (s : cS) (W : Int) (r : cA) (s' : cS) : Prop := (∃ o, r = .inl (some (kQ o)) ∧ c_fo s' o ∧ ((o = none → s'.1 3 6 = W) ∧ (¬ o = none → W = -1))) ∧ c_RP s s' 120 720
theorem c_nq0 {q L : Nat} {k : Int} (h : c_ext q L k = true) : ¬ c_nq q = 0 ∧ ¬ q = 0 := by
  unfold c_nq
  rcases c_ext_iff.mp h with ⟨e, -⟩ | ⟨e, -⟩ | ⟨e, -⟩ <;> subst e <;> decide
theorem c_bq0 {k : Int} : ¬ c_bq k = 0 := by
  unfold c_bq
  split
  · decide
  · split
    · decide
    · split <;> decide
/-- one character that is taken -/
theorem c_stp {q L N : Nat} {i : Int} {s1 : cS} (hN : 200 ≤ N + i) (hi : i < 120) (h0 : ¬ ch i = 0) (hD : 0 ≤ t.1 3 1 ∧ t.1 3 1 ≤ 8) (hRt : c_RS t) (hE : n_rpE ch false N (c_ae ch q L i) (t.1 3 1) (decide (q = 0)) (decide (t.1 3 1 = 0 ∧ ¬ t.2.1 3 2 = none)) W) (hT : (c_ext q L (ch i) = true ∧ c_AT s1 (c_nq q) (c_nL q L) ∧ s1.1 3 1 = t.1 3 1 ∧ s1.2.1 3 2 = t.2.1 3 2) ∨ (¬ c_ext q L (ch i) = true ∧ ((ch i = 32 ∧ c_AT s1 0 0 ∧ s1.1 3 1 = t.1 3 1 ∧ s1.2.1 3 2 = t.2.1 3 2) ∨ (ch i = 40 ∧ t.1 3 1 < 8 ∧ (0 < t.1 3 1 ∨ t.2.1 3 2 = none) ∧ c_AT s1 0 0 ∧ s1.1 3 1 = t.1 3 1 + 1) ∨ (ch i = 41 ∧ 0 < t.1 3 1 ∧ c_AT s1 0 0 ∧ s1.1 3 1 = t.1 3 1 - 1 ∧ s1.2.1 3 2 = t.2.1 3 2) ∨ (¬ ch i = 32 ∧ ¬ ch i = 40 ∧ ¬ ch i = 41 ∧ q = 0 ∧ c_beg (ch i) = true ∧ (0 < t.1 3 1 ∨ t.2.1 3 2 = none) ∧ c_AT s1 (c_bq (ch i)) 1 ∧ s1.1 3 1 = t.1 3 1 ∧ ¬ s1.2.1 3 2 = none)))) : ∃ (q' L' N' : Nat), c_AT s1 q' L' ∧ 200 ≤ N' + (i + 1) ∧ n_rpE ch false N' (c_ae ch q' L' (i + 1)) (s1.1 3 1) (decide (q' = 0)) (decide (s1.1 3 1 = 0 ∧ ¬ s1.2.1 3 2 = none)) W := by
  rcases hT with ⟨hx, h1, h2, h3⟩ | ⟨hx, hT⟩
  · obtain ⟨n1, n2⟩ := c_nq0 hx
    refine ⟨c_nq q, c_nL q L, N, h1, by omega, ?_⟩
    rw [h2, h3, decide_eq_false n1, ← c_ae_s hx]
    rw [decide_eq_false n2] at hE
    exact hE
  · rw [c_ae_e hx] at hE
    obtain ⟨N', rfl⟩ : ∃ N', N = N' + 1 := ⟨N - 1, by omega⟩
    rcases hT with ⟨hk, h1, h2, h3⟩ | ⟨hk, h0', hw, h1, h2⟩ | ⟨hk, h0', h1, h2, h3⟩ | ⟨k1, k2, k3, q0, hb, hw, h1, h2, h3⟩
    · refine ⟨0, 0, N', h1, by omega, ?_⟩
      rw [h2, h3]
      exact c_r32 hE hk
    · refine ⟨0, 0, N', h1, by omega, ?_⟩
      have e1 : decide (t.1 3 1 = 0 ∧ ¬ t.2.1 3 2 = none) = false := decide_eq_false (fun e => by
        rcases hw with hw | hw
        · omega
        · exact e.2 hw)
      have e2 : decide (s1.1 3 1 = 0 ∧ ¬ s1.2.1 3 2 = none) = false := decide_eq_false (fun e => by
        have := e.1
        omega)
      rw [e1] at hE
      rw [e2, h2]
      exact c_r40 hE hk h0'
    · refine ⟨0, 0, N', h1, by omega, ?_⟩
      have e2 : decide (s1.1 3 1 = 0 ∧ ¬ s1.2.1 3 2 = none) = decide (t.1 3 1 - 1 = 0) := by
        rw [h2, h3]
        have hn := hRt.2 h0'
        exact decide_eq_decide.mpr ⟨fun e => e.1, fun e => ⟨e, hn⟩⟩
      rw [e2, h2]
      exact c_r41 hE hk h0'
    · refine ⟨c_bq (ch i), 1, N', h1, by omega, ?_⟩
      have e1 : decide (t.1 3 1 = 0 ∧ ¬ t.2.1 3 2 = none) = false := decide_eq_false (fun e => by
        rcases hw with hw | hw
        · omega
        · exact e.2 hw)
      have e2 : decide (s1.1 3 1 = 0 ∧ ¬ s1.2.1 3 2 = none) = (if 0 < t.1 3 1 then false else true) := by
        rw [h2]
        split
        · exact decide_eq_false (fun e => by have := e.1; omega)
        · exact decide_eq_true ⟨by omega, h3⟩
      rw [e1, decide_eq_true q0] at hE
      rw [e2, h2, decide_eq_false c_bq0]
      exact c_rbg hE k1 k2 k3 hb
/-- one that is not -/
theorem c_stn {q L N : Nat} {i : Int} (hN : 200 ≤ N + i) (hi : i < 120) (h0 : ¬ ch i = 0) (hD : 0 ≤ t.1 3 1 ∧ t.1 3 1 ≤ 8) (hE : n_rpE ch false N (c_ae ch q L i) (t.1 3 1) (decide (q = 0)) (decide (t.1 3 1 = 0 ∧ ¬ t.2.1 3 2 = none)) W) (hx : ¬ c_ext q L (ch i) = true) (hT : (ch i = 40 ∧ (¬ t.1 3 1 < 8 ∨ (t.1 3 1 = 0 ∧ ¬ t.2.1 3 2 = none))) ∨ (ch i = 41 ∧ t.1 3 1 = 0) ∨ (¬ ch i = 32 ∧ ¬ ch i = 40 ∧ ¬ ch i = 41 ∧ (¬ q = 0 ∨ ¬ c_beg (ch i) = true ∨ (t.1 3 1 = 0 ∧ ¬ t.2.1 3 2 = none)))) : W = i := by
  rw [c_ae_e hx] at hE
  obtain ⟨N', rfl⟩ : ∃ N', N = N' + 1 := ⟨N - 1, by omega⟩
  rcases hT with ⟨hk, hT⟩ | ⟨hk, hT⟩ | ⟨k1, k2, k3, hT⟩
  · refine c_rer hE h0 (by omega) (fun e => by omega) ?_
    rcases hT with hT | hT
    · exact Or.inr (Or.inr ⟨hk, by omega⟩)
    · exact Or.inl (decide_eq_true hT)
  · refine c_rer hE h0 (by omega) (fun e => by omega) (Or.inr (Or.inl ⟨by omega, fun e => ?_⟩))
    have := e.1
    rw [hk] at this
    exact absurd this (by decide)
  · refine c_rer hE h0 k1 (fun e => k3 e.1) ?_
    rcases hT with hT | hT | hT
    · exact Or.inr (Or.inl ⟨k2, fun e => hT (of_decide_eq_true e.2)⟩)
    · exact Or.inr (Or.inl ⟨k2, fun e => hT e.1⟩)
    · exact Or.inl (decide_eq_true hT)
theorem c_l28x (hd : 6 ≤ d) (hch : ∀ i : Int, 0 ≤ i → i < s.1 1 1 → s.1 2 i.toNat = ch i ∧ 0 < ch i ∧ ch i < 256) (hce : ∀ i : Int, s.1 1 1 ≤ i → ch i = 0) (h120 : s.1 1 1 ≤ 120) : ∀ (m : Nat) (t : cS) (i : Int) (x y q L N : Nat), c_RP s t x y → c_RS t → c_AT t q L → 0 ≤ i → i + m = s.1 1 1 → m ≤ (cq t).1 ∧ 6 * m ≤ (cq t).2 → x + m ≤ 120 → y + 6 * m ≤ 720 → 200 ≤ N + i → n_rpE ch false N (c_ae ch q L i) (t.1 3 1) (decide (q = 0)) (decide (t.1 3 1 = 0 ∧ ¬ t.2.1 3 2 = none)) W → CP X Z (d + 4) 28 17 [some (kQ (some 3)), some (kQ (some 1)), some (kI i)] [] t (c_RD s W) := by
  intro m
  induction m with
  | zero =>
    intro t i x y q L N ht hR hA hi hm hq hx hy hN hE
    have t1 : cT t 1 = 1 := c_t ht.1 (1, 1) (by decide)
    have t3 : cT t 3 = 6 := c_t ht.1 (3, 6) (by decide)
    have e11 : t.1 1 1 = s.1 1 1 := ht.2.2.1.1
    have q1 := c_RP_u3 ht.1 (j := 6) (c_w_rg (t.1 1 1)) (fun e => by cases e)
    have m1 := c_RP_le (c_RP_tr ht q1) (x2 := 120) (y2 := 720) (by omega) (by omega)
    have h0 : ch i = 0 := hce i (by omega)
    have hx0 : ¬ c_ext q L (ch i) = true := fun e => by
      rw [h0] at e
      rcases c_ext_iff.mp e with ⟨-, e6, -⟩ | ⟨-, e6, -⟩ | ⟨-, e6⟩
      · exact absurd e6 (by decide)
      · exact absurd e6 (by decide)
      · exact absurd e6 (by decide)
    rw [c_ae_e hx0] at hE
    obtain ⟨N', rfl⟩ : ∃ N', N = N' + 1 := ⟨N - 1, by omega⟩
    have hW := c_rend hE h0
    have e6 : (c_uA t 3 6 (c_w (t.1 1 1))).1 3 6 = i := by
      show n_updA t.1 3 6 (c_w (t.1 1 1)) 3 6 = i
      rw [n_ua_eq, if_pos rfl, c_w_id ⟨by omega, by omega⟩]
      omega
    have e1 : (c_uA t 3 6 (c_w (t.1 1 1))).1 3 1 = t.1 3 1 := by
      show n_updA t.1 3 6 (c_w (t.1 1 1)) 3 1 = _
      rw [n_ua_eq, if_neg (by decide)]
    have h73 : ∀ o : Option Nat, c_fo (c_uA t 3 6 (c_w (t.1 1 1))) o → (o = none → W = i) → (¬ o = none → W = -1) → CP X Z (d + 4) 28 73 [some (kQ (some 3)), some (kQ (some 1)), some (kI i)] [kQ o] (c_uA t 3 6 (c_w (t.1 1 1))) (c_RD s W) := fun o ho h1 h2 => c_at nb28_73 (by omega) rfl ⟨⟨o, rfl, ho, fun e => by rw [e6]; exact (h1 e).symm, h2⟩, m1⟩
    have h50 : CP X Z (d + 4) 28 50 [some (kQ (some 3)), some (kQ (some 1)), some (kI i)] [] t (c_RD s W) := by
      refine c_at nb28_50 (by omega) rfl ⟨1, rfl, t1, 3, rfl, t3, 3, rfl, t3, q1.1.1 _ _, fun z => c_at nb28_72 (by omega) rfl (h73 none (fun c hc => by cases hc) (fun _ => ?_) (fun e => absurd rfl e)), fun z => ⟨3, rfl, t3, h73 _ q1.1.2.2.2.2.1 (fun e => ?_) (fun e => ?_)⟩⟩
      · have z : ¬ t.1 3 1 = 0 := fun e => z (e1.trans e)
        rw [hW, if_neg (fun e => z (of_decide_eq_true e).1)]
      · have e : t.2.1 3 2 = none := e
        rw [hW, if_neg (fun e2 => (of_decide_eq_true e2).2 e)]
      · have e : ¬ t.2.1 3 2 = none := e
        have z : t.1 3 1 = 0 := e1.symm.trans z
        rw [hW, if_pos (decide_eq_true ⟨z, e⟩)]
    exact c_at nb28_17 (by omega) rfl ⟨1, rfl, t1, ⟨by omega, by omega⟩, ht.1.1 _ _, fun _ => h50, fun z => absurd (show t.1 1 1 ≤ i by omega) z⟩
  | succ m ih =>
    intro t i x y q L N ht hR hA hi hm hq hx hy hN hE
    have t1 : cT t 1 = 1 := c_t ht.1 (1, 1) (by decide)
    have t3 : cT t 3 = 6 := c_t ht.1 (3, 6) (by decide)
    have e11 : t.1 1 1 = s.1 1 1 := ht.2.2.1.1
    have hb : c_By t 1 2 := c_ok_By ht.1 (p := (1, 0, 2)) (by decide) rfl (by decide)
    obtain ⟨c1, c2, c3⟩ := hch i hi (by omega)
    have hD := ht.1.2.2.2.1.1
    refine c_at nb28_17 (by omega) rfl ⟨1, rfl, t1, ⟨by omega, by omega⟩, ht.1.1 _ _, fun z => absurd (show t.1 1 1 ≤ i from z) (by omega), fun _ => ?_⟩
    refine c_iv (d := d + 3) (a := 1) (vs := [kQ (some 1), kI i]) (r := [kQ (some 3)]) nn16 (by simp) rfl nc16 t1 (by decide) (cg16 (by omega) hb ht.1.1 ⟨by omega, by omega⟩) (fun r' s' hr => ?_)
    rw [hr.1, hr.2, if_pos (show 0 ≤ i ∧ i < t.1 1 1 from ⟨hi, by omega⟩), ht.2.2.1.2.1, c1]
    refine c_iv (d := d + 3) (a := 3) (vs := [kQ (some 3), kI (ch i)]) (r := []) nn29 (by simp) rfl nc29 t3 (by decide) (cx29 hd ht.1 hR hA ⟨by omega, c3⟩ ⟨by omega, by omega⟩) (fun r' s1 hr => ?_)
    obtain ⟨q1, hr⟩ := hr
    have m1 := c_RP_tr ht q1
    have t31 : cT s1 3 = 6 := c_t q1.1 (3, 6) (by decide)
    rcases hr with ⟨e, hR1, hT⟩ | ⟨e, hx1, hT⟩
    · rw [e]
      refine ⟨⟨by decide, by decide⟩, fun _ => ?_, fun z => absurd z (by decide)⟩
      refine c_at nb28_44 (by omega) rfl ?_
      have hbd := q1.2.2.2
      unfold c_bd at hbd
      obtain ⟨q', L', N', hA', hN', hE'⟩ := c_stp hN (by omega) (by omega) hD hR hE hT
      exact ih s1 (i + 1) (x + 1) (y + 6) q' L' N' m1 hR1 hA' (by omega) (by omega) ⟨by omega, by omega⟩ (by omega) (by omega) hN' hE'
    · rw [e]
      have hW := c_stn hN (by omega) (by omega) hD hE hx1 hT
      refine ⟨⟨by decide, by decide⟩, fun z => absurd rfl z, fun _ => ⟨3, rfl, t31, ⟨none, rfl, (fun c hc => by cases hc), fun _ => ?_, fun e => absurd rfl e⟩, c_RP_le (c_RP_tr m1 (c_RP_u3 q1.1 (c_w_rg _) (fun e => by cases e))) (by omega) (by omega)⟩⟩
      rw [c_u_at, c_w_id ⟨by omega, by omega⟩, hW]
theorem cx28 (hd : 6 ≤ d) (h : c_ok s) (hq : 120 ≤ (cq s).1 ∧ 720 ≤ (cq s).2) (hch : ∀ i : Int, 0 ≤ i → i < s.1 1 1 → s.1 2 i.toNat = ch i ∧ 0 < ch i ∧ ch i < 256) (hce : ∀ i : Int, s.1 1 1 ≤ i → ch i = 0) (hW : n_rp ch false 200 0 0 true false = W) : CG X Z (d + 4) 28 [kQ (some 3), kQ (some 1)] s (c_RD s W) := by
  have t3 : cT s 3 = 6 := c_t h (3, 6) (by decide)
  have hb : c_By s 1 2 := c_ok_By h (p := (1, 0, 2)) (by decide) rfl (by decide)
  have l2 : cN s 2 = 120 := c_l h (2, 120) (by decide)
  have hbb := hb.2.2.2.1
  have w0 : c_w 0 = 0 := by decide
  have q1 := c_RP_u3 h (j := 1) (x := c_w 0) (c_w_rg 0) (fun _ => by rw [w0]; decide)
  have q2 := c_ok_R3 q1.1 (j := 2) (Or.inl rfl) (o := none) (fun c hc => by cases hc)
  have q3 := c_ok_R3 q2.1 (j := 3) (Or.inr rfl) (o := none) (fun c hc => by cases hc)
  have q := c_RP_tr q1 (c_RP_tr q2 q3)
  refine c_G_of (L := [some (kQ (some 3)), some (kQ (some 1)), none]) (by rw [nl28]; exact Nat.le_of_ble_eq_true rfl) (by rw [nl28]; rfl) ?_
  refine c_at nb28_0 (by omega) rfl ⟨3, rfl, t3, 3, rfl, t3, 3, rfl, t3, ?_⟩
  have f1 : (c_uR (c_uR (c_uA s 3 1 (c_w 0)) 3 2 none) 3 3 none).1 3 1 = 0 := by
    show n_updA s.1 3 1 (c_w 0) 3 1 = 0
    rw [n_ua_eq, if_pos rfl]
    exact w0
  have f3 : (c_uR (c_uR (c_uA s 3 1 (c_w 0)) 3 2 none) 3 3 none).2.1 3 3 = none := by rw [c_R_at, if_pos ⟨rfl, rfl⟩]
  have f2 : (c_uR (c_uR (c_uA s 3 1 (c_w 0)) 3 2 none) 3 3 none).2.1 3 2 = none := by rw [c_R_at, if_neg (by decide), c_R_at, if_pos ⟨rfl, rfl⟩]
  have fq : cq (c_uR (c_uR (c_uA s 3 1 (c_w 0)) 3 2 none) 3 3 none) = cq s := rfl
  generalize c_uR (c_uR (c_uA s 3 1 (c_w 0)) 3 2 none) 3 3 none = S at *
  refine c_l28x (W := W) hd hch hce (by omega) (s.1 1 1).toNat S 0 0 0 0 0 200 q ⟨fun i hi => by rw [f1] at hi; omega, fun hi => by rw [f1] at hi; omega⟩ f3 (by omega) (by omega) (by rw [fq]; omega) (by omega) (by omega) (by omega) ?_
  rw [f1]
  have e : decide ((0 : Int) = 0 ∧ ¬ S.2.1 3 2 = none) = false := decide_eq_false (fun e => e.2 f2)
  rw [e]
  exact hW
theorem n_read_m {R : nS} : n_rp (n_at1 R (-1)) false 200 0 0 true false = n_read R (-1) := by
  unfold n_read
  have e : decide ((0 : Int) ≤ -1) = false := by decide
  rw [e]
/-- compile: the position is the reference's -/
theorem cx27 (hd : 6 ≤ d) (h : c_ok s) (hq : 160 ≤ (cq s).1 ∧ 1700 ≤ (cq s).2 ∧ cn s + (cq s).1 ≤ 1000000) (hch : ∀ i : Int, 0 ≤ i → i < s.1 1 1 → s.1 2 i.toNat = ch i ∧ 0 < ch i ∧ ch i < 256) (hce : ∀ i : Int, s.1 1 1 ≤ i → ch i = 0) (hW : n_rp ch false 200 0 0 true false = W) : CG X Z (d + 206) 27 [kQ (some 0)] s (c_CMP (fun o e => (o = none → e = W) ∧ (¬ o = none → W = -1)) s) :=
  cg27R hd h hq (CG_mono (cx28 (d := d + 201) (by omega) h ⟨by omega, by omega⟩ hch hce hW) (fun r s' hr => by
    obtain ⟨⟨o, e, fo, hr⟩, m⟩ := hr
    exact ⟨⟨o, e, fo, hr⟩, m⟩))
theorem c_CMP_p {s' : cS} {r : cA} (h : c_CMP (fun o e => (o = none → e = W) ∧ (¬ o = none → W = -1)) s r s') : s'.1 0 6 = W := by
  obtain ⟨-, -, -, -, -, o, e, ⟨h1, h2⟩, h3⟩ := h
  rw [h3]
  split
  · rename_i ho
    exact h1 ho
  · rename_i ho
    exact (h2 ho).symm
end H6
