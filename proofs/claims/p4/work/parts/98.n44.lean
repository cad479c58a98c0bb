/-! THE TASK MACHINE: slots, runs, calls -/
section N44
variable {Z : Nat → List Int32} {d r h : Nat} {P : nS → Prop} {b s t : nS} {D H O D' H' O' : Nat → Int} {Q Q' : Nat → Prop} {z z' w i : Nat} {f c v : Int} {xs : List Int}
/-- a set -/
theorem n_kSet {a x y : Int} (hL : n_LO Z d b P) (hd : 6 ≤ d) (hI : n_IH P b r h i s D H O Q z f) (hc : n_ch s O c f [a, x, y]) : P (n_push (n_push s 9 (s.2 40 x.toNat) 0) 0 (s.2 40 y.toNat) 0) := by
  obtain ⟨IH, hB, hi, hf, hH, hr, hm, hs, K⟩ := hI
  obtain ⟨m1, m2, m3, m4⟩ := n_RM_1 hm
  have hF := hB.2.2.1.1
  have hd0 := hB.2.2.2.2.1.2.1
  obtain ⟨y1, y2, y3, -, -⟩ := n_cl (x := y) hF hc (by simp) hf hH n_old_rf
  obtain ⟨u1, u2, u3, u4⟩ := n_pushed (s := s) (k := 9) (x := s.2 40 x.toNat) (y := 0) hi
  have E0 : n_E i (s.1 32) z s D H O (n_push s 9 (s.2 40 x.toNat) 0) D H O := n_E_push (by omega) (by omega)
  refine n_sub (i := i + 1) IH (n_BI_push hB) (by rw [u1]; omega) y1 y3 hr m1 hs ?_
  intro s1 D1 H1 O1 z1 k1 k2 k3 k4 k5 k6
  obtain ⟨w1, w2, w3⟩ := k2.2.2.2.2.1 i (by omega)
  have k5 : s1.1 31 = s.1 31 + 1 := k5
  have k6 : s1.1 32 = s.1 32 := k6
  have hE : n_E i (s.1 32) z s D H O s1 D1 H1 O1 := n_E_tr E0 k2 (by omega) (Int.le_refl _) (Nat.le_refl _)
  obtain ⟨x1, x2, x3, x4, -⟩ := n_cl (x := x) hF hc (by simp) hf hH hE.1
  have hB1 := n_BI_pop (x := (i : Int)) k1
  have hF1 := k1.2.2.1.1
  obtain ⟨f1, f2, f3, -⟩ := n_form1 hF1 ⟨x1.1, x2⟩
  have hN := k1.2.2.2.1
  have hN1 := hN.1
  refine n_go hL (i := i) (by rw [k4]; omega) (by omega) k1.2.1.2.2 (k := 9) (x := s.2 40 x.toNat) (y := 0) (by rw [w1]; exact u2) (by rw [w2]; exact u3) (by rw [w3]; exact u4) ?_
  obtain ⟨a0, ⟨g1, g2, g3⟩, a2, a3, ⟨d1, d2, d3⟩, a5, a6⟩ := hB1
  have g1 : s1.1 30 = (z1 : Int) := g1
  refine n_pf9 (d := d + 4) (s := (n_upd s1.1 29 i, s1.2)) (by omega) f1 f2 f3 hN.2 ⟨hN1.1, by show s1.1 32 ≤ 120; omega⟩ ⟨by show 0 ≤ s1.1 30; omega, by show s1.1 30 < 240; omega⟩ (Or.inl k1.2.1.2.2) ⟨rfl, ?_⟩
  generalize hsl : (if n_slotK (n_upd s1.1 29 (i : Int), s1.2) (s.2 40 x.toNat) < 0 then 0 else (n_upd s1.1 29 (i : Int), s1.2).2 49 (n_slotK (n_upd s1.1 29 (i : Int), s1.2) (s.2 40 x.toNat)).toNat) = sl
  refine n_bad hL (n_bf_e (n_bf_28 (n_bf_e a0))) ⟨by show 0 ≤ s1.1 30 + 1 + 1; omega, by show s1.1 30 + 1 + 1 ≤ 260; omega⟩ ⟨by show 0 ≤ (i : Int); omega, by show (i : Int) ≤ 300; omega⟩ (n_T01 _) (fun h0 => ?_)
  have h01 := n_e28_0 (s := n_slotS (n_e (n_upd s1.1 29 (i : Int), s1.2) 11) (s.2 40 x.toNat)) (x := sl) h0
  have hz : s1.1 30 + 1 + 1 ≤ 200 := h01.2
  have h02 := n_T00 h01.1
  have hk0 : 0 ≤ n_slotK s1 (s.2 40 x.toNat) := by
    have : ¬ n_slotK s1 (s.2 40 x.toNat) < 0 := fun h => h02 (Or.inr h)
    omega
  have hkb := n_lat_b (fun i => decide (s1.2 38 (s.2 40 x.toNat).toNat = 1 ∧ s1.2 48 i = s1.2 39 (s.2 40 x.toNat).toNat)) (s1.1 32).toNat
  have hkb : n_slotK s1 (s.2 40 x.toNat) < ((s1.1 32).toNat : Nat) := hkb.2
  have hsl : (if n_slotK s1 (s.2 40 x.toNat) < 0 then 0 else s1.2 49 (n_slotK s1 (s.2 40 x.toNat)).toNat) = sl := hsl
  rw [if_neg (by omega)] at hsl
  have hsb := n_SB_E (e' := s.1 31) hs hE k6 (Int.le_refl _) (n_slotK s1 (s.2 40 x.toNat)).toNat (by omega)
  rw [hsl] at hsb
  have e1 : (n_slotS (n_e (n_upd s1.1 29 (i : Int), s1.2) 11) (s.2 40 x.toNat)).1 30 = ((z1 + 1 : Nat) : Int) := by show s1.1 30 + 1 = _; omega
  have hcc : ∀ j, (n_e (n_slotS (n_e (n_upd s1.1 29 (i : Int), s1.2) 11) (s.2 40 x.toNat)) sl).2 47 j = if j = z1 + 1 then n_by sl else if j = z1 then n_by 11 else s1.2 47 j := fun j => by
    rw [n_e47 e1]
    show (if j = z1 + 1 then n_by sl else (n_e (n_upd s1.1 29 (i : Int), s1.2) 11).2 47 j) = _
    rw [n_e47 (s := (n_upd s1.1 29 (i : Int), s1.2)) (z := z1) g1]
  have q1 : ∀ k, ¬ (28 ≤ k ∧ k ≤ 31) → (n_e (n_slotS (n_e (n_upd s1.1 29 (i : Int), s1.2) 11) (s.2 40 x.toNat)) sl).1 k = (n_upd s1.1 29 (i : Int), s1.2).1 k := fun k hk => by
    show n_upd (n_upd (n_upd (n_upd (n_upd (n_upd s1.1 29 _) 30 _) 28 _) 28 _) 30 _) 28 _ k = n_upd s1.1 29 _ k
    rw [n_u_ne (by omega), n_u_ne (by omega), n_u_ne (by omega), n_u_ne (by omega), n_u_ne (by omega)]
  have q2 : ∀ a i', ¬ (44 ≤ a ∧ a ≤ 47) → (n_e (n_slotS (n_e (n_upd s1.1 29 (i : Int), s1.2) 11) (s.2 40 x.toNat)) sl).2 a i' = (n_upd s1.1 29 (i : Int), s1.2).2 a i' := fun a i' ha => by
    show n_updA (n_updA s1.2 47 _ _) 47 _ _ a i' = _
    rw [n_ua_ne (by omega), n_ua_ne (by omega)]
  have hz1 := a5.2.1
  have hcb : ∀ j, j < z1 → (n_e (n_slotS (n_e (n_upd s1.1 29 (i : Int), s1.2) 11) (s.2 40 x.toNat)) sl).2 47 j = (n_upd s1.1 29 (i : Int), s1.2).2 47 j := fun j hj => by
    rw [hcc, if_neg (by omega), if_neg (by omega)]
  have d1 : D1 z1 = s1.1 31 := d1
  have d3 : 2 * s1.1 31 ≤ 8 + s1.1 30 := d3
  have hBI := n_BI_app (w := 2) (e := s1.1 31) (Q' := Q) ⟨a0, ⟨g1, g2, g3⟩, a2, a3, ⟨d1, d2, d3⟩, a5, a6⟩ (n_bf_e (n_bf_28 (n_bf_e a0))) (by decide) (t := n_e (n_slotS (n_e (n_upd s1.1 29 (i : Int), s1.2) 11) (s.2 40 x.toNat)) sl) (by show s1.1 30 + 1 + 1 = _; omega) (by omega) h0 rfl d2 (by omega) q1 q2 hcb (fun _ h => h) (Or.inr (Or.inr (Or.inr (Or.inr (Or.inr (Or.inr (Or.inr (Or.inl ⟨by rw [hcc, if_neg (by omega), if_pos rfl]; decide, by omega, by rw [n_u_eq, n_u_ne (by omega), d1], by rw [n_u_ne (by omega)]; exact hz1 _ (by omega), by rw [n_u_ne (by omega), d1]; omega, by rw [hcc, if_pos rfl, n_u_ne (by omega), d1, n_by_small ⟨hsb.1, by omega⟩]; omega⟩))))))))
  exact K _ _ _ _ _ hBI (n_E_tr (n_E_tr hE (n_E_pop (x := (i : Int)) (i := (i : Int)) (v := s.1 32) (w := z)) (Int.le_refl _) (Int.le_refl _) (Nat.le_refl _)) (n_E_app q1 q2 hcb (by decide) (Nat.le_refl _) (fun _ _ => ⟨rfl, rfl, rfl⟩)) (Int.le_refl _) (Int.le_refl _) k3) (by omega) rfl k5 k6
/-- three bytes: a jump to a known place, or a number; as deep as said -/
theorem n_app3 {op x y e : Int} {k : Int} (hB : n_BI b s D H O Q z) (hz : s.1 30 + 1 + 1 + 1 ≤ 200) (h0 : (n_fd (n_e (n_e (n_e s op) x) y) 31 k).1 28 = 0) (hop : n_by op = op) (hk : s.1 31 + k = e) (he : 0 ≤ e) (he2 : e ≤ s.1 31 + 1) (hcv : (op = 0 ∧ e = s.1 31 + 1) ∨ (op = 7 ∧ e = s.1 31 ∧ ∃ q : Nat, q ≤ z ∧ D q = s.1 31 ∧ x = n_shr (q : Int) 8 ∧ y = (q : Int))) : n_BI b (n_fd (n_e (n_e (n_e s op) x) y) 31 k) (n_upd D (z + 3) e) H O Q (z + 3) ∧ (∀ (j v : Int) (w : Nat), w ≤ z → n_E j v w s D H O (n_fd (n_e (n_e (n_e s op) x) y) 31 k) (n_upd D (z + 3) e) H O) := by
  obtain ⟨a0, ⟨g1, g2, g3⟩, a2, a3, ⟨d1, d2, d3⟩, a5, a6⟩ := hB
  have e1 := n_e30 (s := s) (x := op) g1
  have e2 := n_e30 (s := n_e s op) (x := x) e1
  have hc : ∀ j, (n_fd (n_e (n_e (n_e s op) x) y) 31 k).2 47 j = if j = z + 1 + 1 then n_by y else if j = z + 1 then n_by x else if j = z then n_by op else s.2 47 j := fun j => by
    show (n_e (n_e (n_e s op) x) y).2 47 j = _
    rw [n_e47 e2, n_e47 e1, n_e47 g1]
  have q1 : ∀ q, ¬ (28 ≤ q ∧ q ≤ 31) → (n_fd (n_e (n_e (n_e s op) x) y) 31 k).1 q = s.1 q := fun q hk => by
    show n_upd (n_upd (n_upd (n_upd (n_upd (n_upd (n_upd s.1 30 _) 28 _) 30 _) 28 _) 30 _) 28 _) 31 _ q = _
    rw [n_u_ne (by omega), n_u_ne (by omega), n_u_ne (by omega), n_u_ne (by omega), n_u_ne (by omega), n_u_ne (by omega), n_u_ne (by omega)]
  have q2 : ∀ a i, ¬ (44 ≤ a ∧ a ≤ 47) → (n_fd (n_e (n_e (n_e s op) x) y) 31 k).2 a i = s.2 a i := fun a i ha => by
    show n_updA (n_updA (n_updA s.2 47 _ _) 47 _ _) 47 _ _ a i = _
    rw [n_ua_ne (by omega), n_ua_ne (by omega), n_ua_ne (by omega)]
  have hz1 := a5.2.1
  have hcb : ∀ j, j < z → (n_fd (n_e (n_e (n_e s op) x) y) 31 k).2 47 j = s.2 47 j := fun j hj => by
    rw [hc, if_neg (by omega), if_neg (by omega), if_neg (by omega)]
  have hcz : (n_fd (n_e (n_e (n_e s op) x) y) 31 k).2 47 z = op := by rw [hc, if_neg (by omega), if_neg (by omega), if_pos rfl, hop]
  refine ⟨n_BI_app (w := 3) (e := e) ⟨a0, ⟨g1, g2, g3⟩, a2, a3, ⟨d1, d2, d3⟩, a5, a6⟩ (n_bf_fd (n_bf_e (n_bf_e (n_bf_e a0))) (by decide)) (by decide) (by show s.1 30 + 1 + 1 + 1 = _; omega) (by omega) h0 hk he (by omega) q1 q2 hcb (fun _ h => h) ?_, fun j v w hw => n_E_app q1 q2 hcb (by decide) hw (fun _ _ => ⟨rfl, rfl, rfl⟩)⟩
  rcases hcv with ⟨o1, o2⟩ | ⟨o1, o2, q, o3, o4, o5, o6⟩
  · left
    rw [hcz, n_u_eq, n_u_ne (show z ≠ z + 3 by omega), n_u_ne (show z + 1 ≠ z + 3 by omega), n_u_ne (show z + 2 ≠ z + 3 by omega), d1]
    exact ⟨o1, by omega, o2, hz1 _ (by omega), hz1 _ (by omega)⟩
  · right; right; right; left
    have htg : n_tg ((n_fd (n_e (n_e (n_e s op) x) y) 31 k).2 47) (z + 1) = (q : Int) := n_tg_put ⟨by omega, by omega⟩ (by rw [hc, if_neg (by omega), if_pos rfl, o5]) (by rw [hc, if_pos rfl, o6])
    rw [hcz, n_u_eq, n_u_ne (show z ≠ z + 3 by omega), n_u_ne (show z + 1 ≠ z + 3 by omega), n_u_ne (show z + 2 ≠ z + 3 by omega), d1, htg, Int.toNat_natCast, n_u_ne (by omega), o4]
    exact ⟨o1, by omega, he, hz1 _ (by omega), hz1 _ (by omega), Or.inr ⟨⟨by omega, by omega⟩, rfl⟩⟩
/-- a run -/
theorem n_kRun {a x y : Int} (hL : n_LO Z d b P) (hd : 6 ≤ d) (hI : n_IH P b r h i s D H O Q z f) (hc : n_ch s O (s.2 39 f.toNat) f [a, x, y]) : P (n_push (n_push s 10 f (s.1 30)) 0 (s.2 40 x.toNat) 0) := by
  obtain ⟨IH, hB, hi, hf, hH, hr, hm, hs, K⟩ := hI
  obtain ⟨m1, m2, m3, m4⟩ := n_RM_1 hm
  have hF := hB.2.2.1.1
  have hd0 := hB.2.2.2.2.1.2.1
  have Dz : D z = s.1 31 := hB.2.2.2.2.1.1
  have h30 : s.1 30 = (z : Int) := hB.2.1.1
  obtain ⟨ff, -, -, -⟩ := n_form1 hF hf
  obtain ⟨x1, x2, x3, -, -⟩ := n_cl (x := x) hF hc (by simp) hf hH n_old_rf
  obtain ⟨u1, u2, u3, u4⟩ := n_pushed (s := s) (k := 10) (x := f) (y := s.1 30) hi
  have E0 : n_E i (s.1 32) z s D H O (n_push s 10 f (s.1 30)) D H O := n_E_push (by omega) (by omega)
  refine n_sub (i := i + 1) IH (n_BI_push hB) (by rw [u1]; omega) x1 x3 hr m1 hs ?_
  intro s1 D1 H1 O1 z1 k1 k2 k3 k4 k5 k6
  obtain ⟨w1, w2, w3⟩ := k2.2.2.2.2.1 i (by omega)
  have k5 : s1.1 31 = s.1 31 + 1 := k5
  have k6 : s1.1 32 = s.1 32 := k6
  have hE : n_E i (s.1 32) z s D H O s1 D1 H1 O1 := n_E_tr E0 k2 (by omega) (Int.le_refl _) (Nat.le_refl _)
  have e39 := (hE.1.2.2.1 f.toNat (by omega)).2.1
  have c1 := n_ch_old hc hE.1
  have hB1 := n_BI_pop (x := (i : Int)) k1
  have hz1 : s1.1 30 = (z1 : Int) := k1.2.1.1
  have hz2 := k1.2.1.2.1
  refine n_go hL (i := i) (by rw [k4]; omega) (by omega) k1.2.1.2.2 (k := 10) (x := f) (y := (z : Int)) (by rw [w1]; exact u2) (by rw [w2]; exact u3) (by rw [w3, ← h30]; exact u4) ?_
  refine n_pf10 (d := d + 3) (s := (n_upd s1.1 29 i, s1.2)) (xs := [a, x, y]) (c := y) (by omega) ff (by show n_isch s1.2 (s1.2 39 f.toNat) _; rw [e39]; exact c1.1) rfl ⟨by show 0 ≤ (i : Int); omega, by show (i : Int) < 298; omega⟩ ⟨by show 0 ≤ s1.1 30; omega, by show s1.1 30 < 240; omega⟩ (Or.inl k1.2.1.2.2) ⟨rfl, ?_⟩
  refine n_bad hL (n_bf_push (n_bf_fd (n_bf_e (n_bf_e (n_bf_push (n_bf_e hB1.1)))) (by decide))) ⟨by show 0 ≤ s1.1 30 + 1 + 1 + 1; omega, by show s1.1 30 + 1 + 1 + 1 ≤ 260; omega⟩ ⟨by show 0 ≤ (i : Int) + 1 + 1; omega, by show (i : Int) + 1 + 1 ≤ 300; omega⟩ (n_T01 _) (fun h0 => ?_)
  have e30 : (n_upd s1.1 29 (i : Int), s1.2).1 30 + 1 = (z1 : Int) + 1 := by show s1.1 30 + 1 = _; omega
  rw [e30] at h0 ⊢
  obtain ⟨o1, o2, o3, o4, o5⟩ := n_jmp (i := i) (v := s.1 32) (w := z1) (op := 8) (k := 11) (x := (z1 : Int) + 1) (y := (z : Int)) hB1 rfl (Or.inr rfl) (by show 1 ≤ s1.1 31; omega) h0 (Nat.le_refl _)
  have hEu := n_E_tr (n_E_tr hE (n_E_pop (x := (i : Int)) (i := (i : Int)) (v := s.1 32) (w := z)) (Int.le_refl _) (Int.le_refl _) (Nat.le_refl _)) o2 (Int.le_refl _) (Int.le_refl _) k3
  obtain ⟨y1, y2, y3, y4, -⟩ := n_cl (x := y) hF hc (by simp) hf hH hEu.1
  show P (n_push _ 0 (s1.2 40 y.toNat) 0)
  rw [(n_cl (x := y) hF hc (by simp) hf hH hE.1).2.2.2.1]
  have D1z : D1 z1 = s1.1 31 := k1.2.2.2.2.1.1
  refine n_sub (i := i + 1) IH o1 (by show (i : Int) + 1 = _; omega) ⟨y1.1, y2⟩ y3 (by have := hEu.2.1; omega) (by show n_RM (i + 1) (s1.1 32) r h; rw [k6]; exact m1) (n_SB_E hs hEu k6 (by show s.1 31 ≤ s1.1 31 + -1; omega)) ?_
  intro s2 D2 H2 O2 z2 j1 j2 j3 j4 j5 j6
  obtain ⟨w1, w2, w3⟩ := j2.2.2.2.2.1 i (by omega)
  have j5 : s2.1 31 = s1.1 31 + -1 + 1 := j5
  have j6 : s2.1 32 = s1.1 32 := j6
  have hE2 : n_E i (s.1 32) z s D H O s2 D2 H2 O2 := n_E_tr hEu j2 (by omega) (by rw [← k6]; exact Int.le_refl _) (by omega)
  have hB2 := n_BI_pop (x := (i : Int)) j1
  have hz3 : s2.1 30 = (z2 : Int) := j1.2.1.1
  have hz4 := j1.2.1.2.1
  have D2z1 : D2 z1 = s1.1 31 := by rw [j2.2.2.2.1 z1 (by omega), n_u_ne (by omega)]; exact D1z
  have D2z : D2 z = s.1 31 := by rw [hE2.2.2.2.1 z (Nat.le_refl _)]; exact Dz
  have c2z1 : s2.2 47 z1 = 8 := by rw [j2.2.2.1 z1 (by omega)]; exact o5
  refine n_go hL (i := i) (by rw [j4]; omega) (by omega) j1.2.1.2.2 (k := 11) (x := (z1 : Int) + 1) (y := (z : Int)) (by rw [w1]; exact o3.1) (by rw [w2]; exact o3.2.1) (by rw [w3]; exact o3.2.2) ?_
  refine n_pf11 (d := d + 3) (s := (n_upd s2.1 29 i, s2.2)) (by omega) ⟨by omega, by omega⟩ ⟨by show 0 ≤ s2.1 30; omega, by show s2.1 30 < 240; omega⟩ (Or.inl j1.2.1.2.2) ⟨rfl, ?_⟩
  refine n_bad hL (n_bf_e (n_bf_e (n_bf_e (n_bf_aim (n_bf_e (n_bf_e (n_bf_e (n_bf_e hB2.1)))))))) ⟨by show 0 ≤ s2.1 30 + 1 + 1 + 1 + 1 + 1 + 1 + 1; omega, by show s2.1 30 + 1 + 1 + 1 + 1 + 1 + 1 + 1 ≤ 260; omega⟩ ⟨by show 0 ≤ (i : Int); omega, by show (i : Int) ≤ 300; omega⟩ (n_T01 _) (fun h0 => ?_)
  generalize hS : (n_upd s2.1 29 (i : Int), s2.2) = S at h0 hB2 ⊢
  have S30 : S.1 30 = (z2 : Int) := by rw [← hS]; exact hz3
  have S31 : S.1 31 = s.1 31 + 1 := by rw [← hS]; show s2.1 31 = _; omega
  have S32 : S.1 32 = s.1 32 := by rw [← hS]; show s2.1 32 = _; omega
  have S29 : S.1 29 = (i : Int) := by rw [← hS]; rfl
  have SE : n_E i (s.1 32) z s D H O S D2 H2 O2 := by rw [← hS]; exact n_E_tr hE2 (n_E_pop (x := (i : Int)) (i := (i : Int)) (v := s.1 32) (w := z)) (Int.le_refl _) (Int.le_refl _) (Nat.le_refl _)
  have Sc : S.2 47 z1 = 8 := by rw [← hS]; exact c2z1
  have b7 := n_e28_0 h0
  have b6 := n_e28_0 b7.1
  have b5 := n_e28_0 b6.1
  have b4 := n_e28_0 (s := n_e (n_e (n_e S 10) 7) (n_shr (z : Int) 8)) (x := (z : Int)) b5.1
  have b3 := n_e28_0 b4.1
  have b2 := n_e28_0 b3.1
  have hz7 : S.1 30 + 1 + 1 + 1 + 1 + 1 + 1 + 1 ≤ 200 := b7.2
  obtain ⟨t1, t2⟩ := n_op1 (f := (i : Int)) (v := s.1 32) (w := z2) hB2 (Or.inl ⟨rfl, by omega⟩) (op := 10) b2.1 (Nat.le_refl _)
  have V1 : (n_fd (n_e S 10) 31 (-1)).1 31 = s.1 31 := by show S.1 31 + -1 = _; omega
  obtain ⟨t3, t4⟩ := n_app3 (op := 7) (x := n_shr (z : Int) 8) (y := (z : Int)) (e := s.1 31) (k := 0) t1 (by show S.1 30 + 1 + 1 + 1 + 1 ≤ 200; omega) b5.1 (by decide) (by rw [V1]; omega) hd0 (by rw [V1]; omega) (Or.inr ⟨rfl, by rw [V1], z, by omega, by rw [n_u_ne (by omega), V1]; exact D2z, rfl, rfl⟩)
  have t5 := n_BI_aim (p := z1) (Q' := Q) t3 (by rw [n_u_ne (by omega), n_u_ne (by omega), D2z1]; omega) (by omega) (Or.inr ⟨by rw [(t4 0 0 (z2 + 1) (Nat.le_refl _)).2.2.1 z1 (by omega), t2.2.2.1 z1 (by omega)]; exact Sc, by rw [n_u_ne (by omega), n_u_ne (by omega), D2z1]; show S.1 31 + -1 + 0 = _; omega⟩) (fun q hq hn => by
    rcases hq with hq | hq
    · exact hq
    · exact absurd hq hn)
  have V3 : (n_aim (n_fd (n_e (n_e (n_e (n_fd (n_e S 10) 31 (-1)) 7) (n_shr (z : Int) 8)) (z : Int)) 31 0) ((z1 : Int) + 1)).1 31 = s.1 31 := by show S.1 31 + -1 + 0 = _; omega
  obtain ⟨t6, t7⟩ := n_app3 (op := 0) (x := 0) (y := 0) (e := s.1 31 + 1) (k := 1) t5 (by show S.1 30 + 1 + 1 + 1 + 1 + 1 + 1 + 1 ≤ 200; omega) h0 (by decide) (by rw [V3]) (by omega) (by rw [V3]; omega) (Or.inl ⟨rfl, by rw [V3]⟩)
  have hR : n_e (n_e (n_e (n_aim (n_e (n_e (n_e (n_e S 10) 7) (n_shr (z : Int) 8)) (z : Int)) ((z1 : Int) + 1)) 0) 0) 0 = n_fd (n_e (n_e (n_e (n_aim (n_fd (n_e (n_e (n_e (n_fd (n_e S 10) 31 (-1)) 7) (n_shr (z : Int) 8)) (z : Int)) 31 0) ((z1 : Int) + 1)) 0) 0) 0) 31 1 := by
    refine Prod.ext (funext fun k => ?_) rfl
    by_cases hk : k = 31
    · subst hk
      show S.1 31 = S.1 31 + -1 + 0 + 1
      omega
    · simp [n_e, n_fd, n_aim, n_upd, hk]
  rw [hR]
  refine K _ _ _ _ _ t6 (n_E_tr (n_E_tr (n_E_tr (n_E_tr SE t2 (Int.le_refl _) (Int.le_refl _) (by omega)) (t4 (i : Int) (s.1 32) z (by omega)) (Int.le_refl _) (Int.le_refl _) (Nat.le_refl _)) (n_E_aim (p := z1) (w := z) (j := (i : Int)) (v := s.1 32) k3) (Int.le_refl _) (Int.le_refl _) (Nat.le_refl _)) (t7 (i : Int) (s.1 32) z (by omega)) (Int.le_refl _) (Int.le_refl _) (Nat.le_refl _)) (by omega) S29 ?_ S32
  show S.1 31 + -1 + 0 + 1 = _
  omega
end N44
