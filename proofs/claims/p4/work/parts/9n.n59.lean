/-! THE REFERENCE'S link -/
def n_f54 (t t' : nS) : Prop := t'.1 = t.1 ∧ ∀ a, a ≠ 54 → t'.2 a = t.2 a
section N59
variable {t t' : nS} {u F S z L : Nat} {D : Nat → Int} {g : Nat → Int} {Ds : Nat → Nat → Int} {zs : Nat → Nat}
theorem n_f_lt (h : n_f54 t t') {w v : Int} : n_latest t' w v = n_latest t w v := by
  unfold n_latest
  rw [h.1, h.2 27 (by decide), h.2 28 (by decide)]
theorem n_f_st (h : n_f54 t t') {v : Int} : n_stands t' v = n_stands t v := by
  unfold n_stands
  rw [h.1, h.2 52 (by decide)]
theorem n_f_tgt (h : n_f54 t t') {j : Nat} : n_tgt t' u j = n_tgt t u j := by
  unfold n_tgt
  rw [n_f_lt h, n_f_st h, h.2 53 (by decide), h.2 34 (by decide)]
theorem n_f_cU (h : n_f54 t t') : n_cU t' u = n_cU t u := by
  unfold n_cU
  rw [h.2 31 (by decide)]
theorem n_f_TF (h : n_f54 t t') : n_TF t' u = n_TF t u := by
  funext p x
  unfold n_TF
  rw [h.2 32 (by decide), h.2 33 (by decide)]
  simp only [n_f_tgt h]
theorem n_f_met (h : n_f54 t t') {v k : Int} (hm : n_met t v k) : n_met t' v k := by
  unfold n_met at *
  rw [n_f_lt h, n_f_st h, h.2 34 (by decide), h.2 33 (by decide), h.2 31 (by decide), h.2 29 (by decide)]
  exact hm
theorem n_f_UV (h : n_f54 t t') (hV : n_UV t u D z) : n_UV t' u D z := n_UV_fr hV (fun a i ha => by rw [h.2 a (by omega)])
theorem n_f_CY (h : n_f54 t t') (hY : n_CY t u F S D z) : n_CY t' u F S D z := by
  obtain ⟨y1, y2, y3, y4, y5, y6, y7, y8, y9, y10⟩ := hY
  refine ⟨n_f_UV h y1, y2, by rw [h.2 30 (by decide)]; exact y3, y4, fun j hj => ?_, by rw [h.1]; exact y6, by rw [h.1]; exact y7, fun i => by rw [h.2 27 (by decide), h.2 28 (by decide)]; exact y8 i, fun i => by rw [h.2 34 (by decide)]; exact y9 i, fun i => by rw [h.2 52 (by decide)]; exact y10 i⟩
  rw [h.2 32 (by decide)] at hj
  rw [h.2 34 (by decide), n_f_lt h, n_f_st h, n_f_tgt h]
  exact y5 j hj
theorem n_f_IU (h : n_f54 t t') (hY : n_IU t L g Ds zs) : n_IU t' L g Ds zs := by
  obtain ⟨y1, y2, y3, y4, y5, y6, y7⟩ := hY
  refine ⟨y1, by rw [h.1]; exact y2, y3, fun k hk => ?_, by rw [h.2 27 (by decide), h.2 52 (by decide)]; exact y5, by rw [h.2 29 (by decide), h.2 52 (by decide)]; exact y6, by rw [h.1]; exact y7⟩
  obtain ⟨z1, z2, z3, z4, z5⟩ := y4 k hk
  rw [h.2 52 (by decide), h.2 30 (by decide), h.2 53 (by decide), h.2 32 (by decide)]
  exact ⟨z1, z2, z3, n_f_UV h z4, fun j hj => n_f_met h (z5 j hj)⟩
/-- what linking may touch, the image aside -/
def n_lk (s t : nS) : Prop := (∀ k, ¬ (k = 0 ∨ k = 4 ∨ k = 43) → t.1 k = s.1 k) ∧ (∀ a i, ¬ (a = 52 ∨ a = 53) → t.2 a i = s.2 a i)
def n_TP (s s' : nS) : Prop := s'.1 1 = s.1 1 ∧ s'.1 3 = s.1 3 ∧ s'.2 26 = s.2 26
def n_LKP (s : nS) (r : nA) (s' : nS) : Prop := n_some r (n_MI s' ∧ n_TP s s')
theorem n_lk_u {s : nS} {k : Nat} {x : Int} (h : n_lk s t) (hk : k = 0 ∨ k = 4 ∨ k = 43) : n_lk s (n_upd t.1 k x, t.2) := ⟨fun j hj => by
  show n_upd t.1 k x j = _
  rw [n_u_ne (fun e => hj (by rw [e]; exact hk))]
  exact h.1 j hj, h.2⟩
theorem n_lk_OM {s : nS} (h : n_lk s t) (g : n_OM t t') : n_lk s t' := ⟨fun k hk => by rw [g.1 k (by omega)]; exact h.1 k hk, fun a i ha => by rw [g.2.1 a i (by omega)]; exact h.2 a i ha⟩
theorem n_MI_lk {s : nS} (h : n_MI s) (hc : n_lk s t) (h52 : ∀ i, n_rng (t.2 52 i)) : n_MI t := by
  obtain ⟨⟨a1, a2, a3, a4⟩, b1, c1⟩ := h
  refine ⟨⟨by rw [hc.1 1 (by decide)]; exact a1, fun i => ?_, fun i hi => ?_, fun i => ?_⟩, n_UI_fr b1 (hc.1 2 (by decide)) (fun a i ha => hc.2 a i (by omega)), n_XI_fr c1 (fun k hk => hc.1 k (by omega)) (fun a i ha => hc.2 a i (by omega)) h52⟩
  · rw [hc.2 26 i (by decide)]; exact a2 i
  · rw [hc.1 1 (by decide)] at hi; rw [hc.2 26 i (by decide)]; exact a3 i hi
  · rw [hc.2 36 i (by decide)]; exact a4 i
theorem n_TP_lk {s : nS} (hc : n_lk s t) : n_TP s t := ⟨hc.1 1 (by decide), hc.1 3 (by decide), funext (fun i => hc.2 26 i (by decide))⟩
/-- the units while they are gathered: k of them have met what they call -/
def n_Q (s t : nS) (k : Int) : Prop := n_lk s t ∧ n_OI t ∧ (t.1 4 = 0 ∨ t.1 4 = 1 ∨ t.1 4 = 2 ∨ t.1 4 = 3) ∧ (t.1 4 = 0 → (1 ≤ t.1 43 ∧ t.2 52 0 = n_latest s 0 0 ∧ 0 ≤ n_latest s 0 0) ∧ (∀ k' : Nat, (k' : Int) < k → (k' : Int) < t.1 43 → ∀ j : Nat, (j : Int) < t.2 32 (t.2 52 k').toNat → n_met t (t.2 52 k') j))
/-- a unit of the order -/
theorem n_Q_u {s : nS} {k : Nat} (hM : n_MI s) (hc : n_lk s t) (hO : n_OI t) (hk : (k : Int) < t.1 43) : (0 ≤ t.2 52 k ∧ t.2 52 k < 16) ∧ ∃ D z, n_UV t (t.2 52 k).toNat D z := by
  obtain ⟨o1, o2⟩ := hO.2.2.1 k hk
  have e2 := hc.1 2 (by decide)
  have hu := hM.2.1.1
  rw [hc.2 27 _ (by decide)] at o2
  obtain ⟨-, -, v1, -⟩ := hM.2.1.2.2 (t.2 52 k).toNat (by omega)
  obtain ⟨D, z, hV⟩ := v1 o2
  exact ⟨⟨o1.1, by omega⟩, D, z, n_UV_fr hV (fun a i ha => hc.2 a i (by omega))⟩
section N59a
variable {Z : Nat → List Int32} {d : Nat} {s : nS} {m0 : Int} {Post : nA → nS → Prop}
theorem n_l147a (hd : 6 ≤ d) (hM : n_MI s) (h81 : ∀ (t : nS) (o : Int), n_Q s t (t.1 43) → NP Z (d + 2) 147 81 [some (xR 25), some (xI m0), some (xI o), none] [] t Post) : ∀ (m k : Nat) (t : nS), k + m = 17 → n_Q s t k → NP Z (d + 2) 147 46 [some (xR 25), some (xI m0), some (xI k), none] [] t Post := by
  intro m
  induction m with
  | zero =>
    intro k t hk hQ
    have h43 := hQ.2.1.1
    have hQ' : n_Q s t (t.1 43) := ⟨hQ.1, hQ.2.1, hQ.2.2.1, fun h => ⟨(hQ.2.2.2 h).1, fun k' a b => (hQ.2.2.2 h).2 k' (by omega) b⟩⟩
    refine n_at nb147_46 (by omega) rfl ⟨⟨by omega, by omega⟩, ⟨by omega, by omega⟩, fun _ => h81 t _ hQ', fun z => ?_⟩
    have z : ¬ t.1 43 ≤ (k : Int) := z
    omega
  | succ m ih =>
    intro k t hk hQ
    have h43 := hQ.2.1.1
    have h4 := hQ.2.2.1
    refine n_at nb147_46 (by omega) rfl ⟨⟨by omega, by omega⟩, ⟨by omega, by omega⟩, fun z => ?_, fun z => ⟨⟨by omega, by omega⟩, fun z2 => ?_, fun z2 => ?_⟩⟩
    · have z : t.1 43 ≤ (k : Int) := z
      exact h81 t _ ⟨hQ.1, hQ.2.1, hQ.2.2.1, fun h => ⟨(hQ.2.2.2 h).1, fun k' a b => (hQ.2.2.2 h).2 k' (by omega) b⟩⟩
    · exact h81 t _ ⟨hQ.1, hQ.2.1, hQ.2.2.1, fun h => absurd h z2⟩
    have z : ¬ t.1 43 ≤ (k : Int) := z
    have z2 : t.1 4 = 0 := z2
    obtain ⟨hc, hO, -, hq⟩ := hQ
    obtain ⟨⟨q1, q2, q3⟩, q4⟩ := hq z2
    obtain ⟨u1, D, z0, hV⟩ := n_Q_u (k := k) hM hc hO (by omega)
    have hu := hM.2.1.1
    have hrg := hM.2.1.2.1
    have e2 := hc.1 2 (by decide)
    refine ⟨⟨by omega, by omega⟩, ?_⟩
    show wq _ _ _ _ _ [xI (t.2 52 ((k : Int).toNat)), xR 25, xR 25] t
    rw [Int.toNat_natCast]
    refine n_iv (d := d + 1) (vs := [xR 25, xI (t.2 52 k)]) (r := [xR 25]) nn149 (by simp) rfl nc149 (ng149 (d := d) (s := t) hd u1 (by rw [e2]; exact hu) (fun i => by rw [hc.2 27 i (by decide), hc.2 28 i (by decide)]; exact (hrg i).1) (fun i => by rw [hc.2 34 i (by decide)]; exact (hrg i).2.2.1) (fun i => by rw [hc.2 29 i (by decide)]; exact (hrg i).2.1) hV.2.2.2.2.2.2 (fun j j1 j2 => ?_) hO) (fun r s' hr => ?_)
    · obtain ⟨p, p1, p2, -⟩ := hV.2.1 j.toNat (by omega)
      have h200 := hV.2.2.2.2.2.1
      have h5 := hV.2.2.2.2.1
      rw [show (50 * t.2 52 k + j).toNat = 50 * (t.2 52 k).toNat + j.toNat from by omega, p1]
      omega
    · obtain ⟨r1, r2, R, r3, r4, r5⟩ := hr
      rw [r3]
      have e52 : ∀ i : Nat, (i : Int) < t.1 43 → s'.2 52 i = t.2 52 i := r2.2.2.2.1
      have hQ2 : n_Q s (n_upd s'.1 4 R, s'.2) ((k + 1 : Nat) : Int) := by
        refine ⟨n_lk_u (n_lk_OM hc r2) (by decide), r1, ?_, fun h0 => ⟨⟨?_, ?_, q3⟩, fun k' a1 a2 j aj => ?_⟩⟩
        · show R = 0 ∨ R = 1 ∨ R = 2 ∨ R = 3
          omega
        · show 1 ≤ s'.1 43
          have := r2.2.2.1
          omega
        · show s'.2 52 0 = _
          rw [e52 0 (by omega)]
          exact q2
        · have h0 : R = 0 := h0
          have aj : (j : Int) < s'.2 32 (s'.2 52 k').toNat := aj
          rw [e52 k' (by omega), r2.2.1 32 _ (by decide)] at aj
          show n_met s' (s'.2 52 k') j
          rw [e52 k' (by omega)]
          by_cases hk' : k' = k
          · rw [hk'] at aj ⊢
            exact r5 h0 j (by omega) aj
          · exact n_OM_met r2 (q4 k' (by omega) (by omega) j aj)
      have := ih (k + 1) _ (by omega) hQ2
      rw [show ((k + 1 : Nat) : Int) = (k : Int) + 1 from by omega] at this
      exact this
/-- where the units begin -/
theorem n_sum_b {n : Nat} (h : ∀ k, k < n → 0 ≤ g k ∧ g k ≤ 200) : ∀ k, k ≤ n → 0 ≤ n_sum g k ∧ n_sum g k ≤ 200 * k
  | 0, _ => by
    show 0 ≤ (0 : Int) ∧ (0 : Int) ≤ 200 * ((0 : Nat) : Int)
    omega
  | k + 1, hk => by
    have := n_sum_b h k (by omega)
    have := h k (by omega)
    show 0 ≤ n_sum g k + g k ∧ n_sum g k + g k ≤ 200 * ((k + 1 : Nat) : Int)
    omega
theorem n_l147b (hd : 6 ≤ d) {n : Nat} (hn : t.1 43 = (n : Int)) (hn2 : n ≤ 16) (hg : ∀ k, k < n → (0 ≤ t.2 52 k ∧ t.2 52 k < 16) ∧ g k = t.2 30 (t.2 52 k).toNat ∧ (0 ≤ g k ∧ g k ≤ 200)) (h120 : NP Z d 147 120 [some (xR 25), some (xI m0), some (xI (n_sum g n)), some (xI n)] [] (t.1, n_cp t.2 53 0 n (n_sum g)) Post) : ∀ (q k : Nat), k + q = n → NP Z d 147 85 [some (xR 25), some (xI m0), some (xI (n_sum g k)), some (xI k)] [] (t.1, n_cp t.2 53 0 k (n_sum g)) Post
  | 0, k, hk => by
    refine n_at nb147_85 hd rfl ⟨⟨by omega, by omega⟩, by show n_rng (t.1 43); exact ⟨by omega, by omega⟩, fun _ => ?_, fun z => ?_⟩
    · rw [show k = n from by omega]
      exact h120
    · have z : ¬ t.1 43 ≤ (k : Int) := z
      omega
  | q + 1, k, hk => by
    obtain ⟨g1, g2, g3⟩ := hg k (by omega)
    refine n_at nb147_85 hd rfl ⟨⟨by omega, by omega⟩, by show n_rng (t.1 43); exact ⟨by omega, by omega⟩, fun z => ?_, fun _ => ?_⟩
    · have z : t.1 43 ≤ (k : Int) := z
      omega
    have e52 : n_updA (n_cp t.2 53 0 k (n_sum g)) 53 ((k : Int).toNat) (n_sum g k) 52 ((k : Int).toNat) = t.2 52 k := by rw [n_ua_ne (by decide), n_cp_ne (by decide), Int.toNat_natCast]
    have e30 : n_updA (n_cp t.2 53 0 k (n_sum g)) 53 ((k : Int).toNat) (n_sum g k) 30 (t.2 52 k).toNat = g k := by rw [n_ua_ne (by decide), n_cp_ne (by decide), g2]
    refine ⟨⟨by omega, by omega⟩, ⟨by omega, by omega⟩, ?_⟩
    show (0 ≤ n_updA (n_cp t.2 53 0 k (n_sum g)) 53 ((k : Int).toNat) (n_sum g k) 52 ((k : Int).toNat) ∧ n_updA (n_cp t.2 53 0 k (n_sum g)) 53 ((k : Int).toNat) (n_sum g k) 52 ((k : Int).toNat) < 16) ∧ NP Z d 147 85 [some (xR 25), some (xI m0), some (xI (n_sum g k + n_updA (n_cp t.2 53 0 k (n_sum g)) 53 ((k : Int).toNat) (n_sum g k) 30 (n_updA (n_cp t.2 53 0 k (n_sum g)) 53 ((k : Int).toNat) (n_sum g k) 52 ((k : Int).toNat)).toNat)), some (xI ((k : Int) + 1))] [] (t.1, n_updA (n_cp t.2 53 0 k (n_sum g)) 53 ((k : Int).toNat) (n_sum g k)) Post
    rw [e52, e30]
    refine ⟨g1, ?_⟩
    have := n_l147b hd hn hn2 hg h120 q (k + 1) (by omega)
    rw [← n_cp_succ (A := t.2) (a := 53) (base := 0) (k := k) (i := ((k : Int).toNat)) (x := n_sum g k) (g := n_sum g) (by omega) rfl, show ((k + 1 : Nat) : Int) = (k : Int) + 1 from by omega] at this
    exact this
end N59a
end N59
