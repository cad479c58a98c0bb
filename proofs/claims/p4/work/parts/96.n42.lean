/-! THE TASK MACHINE: the kinds of lists. All begin with the list's own task taken off -/
/-- what is known of a list -/
def n_IH (P : nS → Prop) (b : nS) (r h i : Nat) (s : nS) (D H O : Nat → Int) (Q : Nat → Prop) (z : Nat) (f : Int) : Prop := n_FC P b r h ∧ n_BI b s D H O Q z ∧ s.1 29 = (i : Int) ∧ (0 ≤ f ∧ f < s.1 17) ∧ H f.toNat ≤ h + 1 ∧ 12 - s.1 33 ≤ r ∧ n_RM i (s.1 32) r (h + 1) ∧ n_SB s (s.1 31) ∧ n_KF P b s D H O Q z i
section N42
variable {Z : Nat → List Int32} {d r h : Nat} {P : nS → Prop} {b s t : nS} {D H O D' H' O' : Nat → Int} {Q Q' : Nat → Prop} {z z' w i : Nat} {f c v : Int} {xs : List Int}
theorem n_RM_1 (hm : n_RM i v r (h + 1)) : n_RM (i + 1) v r h ∧ n_RM (i + 2) v r h ∧ n_RM (i + 1) (v + 1) r h ∧ i < 290 := by
  unfold n_RM at *
  omega
/-- a cell's form, later -/
theorem n_cl {x : Int} (hF : n_FI s H O) (hc : n_ch s O c f xs) (hx : x ∈ xs) (hf : 0 ≤ f ∧ f < s.1 17) (hH : H f.toNat ≤ h + 1) (ho : n_old s H O t H' O') : (0 ≤ s.2 40 x.toNat ∧ s.2 40 x.toNat < s.1 17) ∧ s.2 40 x.toNat < t.1 17 ∧ H' (s.2 40 x.toNat).toNat ≤ h ∧ t.2 40 x.toNat = s.2 40 x.toNat ∧ t.2 41 x.toNat = s.2 41 x.toNat := by
  obtain ⟨g1, g2⟩ := n_cell1 hF (hc.2 x hx) hf.1
  have hx2 := (hc.2 x hx).1
  have h17 := ho.1
  have e := (ho.2.2.1 (s.2 40 x.toNat).toNat (by omega)).2.2
  obtain ⟨e1, e2, e3⟩ := ho.2.2.2 x.toNat (by omega)
  refine ⟨g1, by omega, ?_, e1, e2⟩
  rw [e]
  omega
theorem n_old_rf : n_old s H O s H O := n_sm_old ⟨⟨rfl, rfl, rfl⟩, fun _ _ _ => rfl⟩
/-- two forms and a step -/
theorem n_kPair {a x y op : Int} (hL : n_LO Z d b P) (hd : 6 ≤ d) (hI : n_IH P b r h i s D H O Q z f) (hc : n_ch s O c f [a, x, y]) (hop : 2 ≤ op ∧ op ≤ 6) : P (n_push (n_push (n_push s 2 op 0) 0 (s.2 40 y.toNat) 0) 0 (s.2 40 x.toNat) 0) := by
  obtain ⟨IH, hB, hi, hf, hH, hr, hm, hs, K⟩ := hI
  obtain ⟨m1, m2, m3, m4⟩ := n_RM_1 hm
  have hF := hB.2.2.1.1
  obtain ⟨x1, x2, x3, -, -⟩ := n_cl (x := x) hF hc (by simp) hf hH n_old_rf
  obtain ⟨u1, u2, u3, u4⟩ := n_pushed (s := s) (k := 2) (x := op) (y := 0) hi
  have u1' : (n_push s 2 op 0).1 29 = ((i + 1 : Nat) : Int) := by rw [u1]; omega
  obtain ⟨v1, v2, v3, v4⟩ := n_pushed (s := n_push s 2 op 0) (k := 0) (x := s.2 40 y.toNat) (y := 0) u1'
  have E0 : n_E i (s.1 32) z s D H O (n_push s 2 op 0) D H O := n_E_push (by omega) (by omega)
  have E1 : n_E ((i + 1 : Nat) : Int) (s.1 32) z (n_push s 2 op 0) D H O (n_push (n_push s 2 op 0) 0 (s.2 40 y.toNat) 0) D H O := n_E_push (by rw [u1']; exact Int.le_refl _) (by rw [u1']; omega)
  refine n_sub (i := i + 2) IH (n_BI_push (n_BI_push hB)) (by rw [v1]; omega) x1 x3 hr m2 hs ?_
  intro s' D' H' O' z' k1 k2 k3 k4 k5 k6
  obtain ⟨w1, w2, w3⟩ := k2.2.2.2.2.1 (i + 1) (by omega)
  have hE : n_E i (s.1 32) z s D H O s' D' H' O' := n_E_tr (n_E_tr E0 E1 (by omega) (Int.le_refl _) (Nat.le_refl _)) k2 (by omega) (Int.le_refl _) (Nat.le_refl _)
  obtain ⟨y1, y2, y3, -, -⟩ := n_cl (x := y) hF hc (by simp) hf hH hE.1
  have k5' : s'.1 31 = s.1 31 + 1 := k5
  have k6' : s'.1 32 = s.1 32 := k6
  refine IH s' D' H' O' Q z' (i + 1) (s.2 40 y.toNat) k1 (by rw [k4]; omega) (by rw [w1]; exact v2) (by rw [w2]; exact v3) ⟨y1.1, y2⟩ y3 (by have := hE.2.1; omega) (by rw [k6']; exact m1) (n_SB_E hs hE k6' (by omega)) ?_
  intro s2 D2 H2 O2 z2 j1 j2 j3 j4 j5 j6
  have hE2 : n_E i (s.1 32) z s D H O s2 D2 H2 O2 := n_E_tr hE j2 (by omega) (by omega) k3
  have t1 := (k2.2.2.2.2.1 i (by omega))
  have t2 := (j2.2.2.2.2.1 i (by omega))
  have t0 := (E1.2.2.2.2.1 i (by omega))
  refine n_go hL (i := i) (by rw [j4]; omega) (by omega) j1.2.1.2.2 (k := 2) (x := op) (y := 0) (by rw [t2.1, t1.1, t0.1]; exact u2) (by rw [t2.2.1, t1.2.1, t0.2.1]; exact u3) (by rw [t2.2.2, t1.2.2, t0.2.2]; exact u4) ?_
  have hB3 := n_BI_pop (x := (i : Int)) j1
  have hz := hB3.2.1.1
  have hz2 := hB3.2.1.2.1
  refine n_pf2 (d := d + 4) (by omega) ⟨by omega, by omega⟩ (Or.inl hB3.2.1.2.2) ⟨rfl, ?_⟩
  refine n_bad hL (n_bf_fd (n_bf_e hB3.1) (by decide)) ⟨by show 0 ≤ s2.1 30 + 1; have : s2.1 30 = z2 := hz; omega, by show s2.1 30 + 1 ≤ 260; have : s2.1 30 = z2 := hz; omega⟩ ⟨by show 0 ≤ (i : Int); omega, by show (i : Int) ≤ 300; omega⟩ (n_T01 _) (fun h0 => ?_)
  have hdd : s2.1 31 = s.1 31 + 2 := by rw [j5, k5']; omega
  have hd0 := hB.2.2.2.2.1.2.1
  obtain ⟨o1, o2⟩ := n_op1 (f := (i : Int)) (v := s.1 32) hB3 (Or.inr ⟨Or.inl hop, by show 2 ≤ s2.1 31; omega⟩) h0 (Nat.le_trans k3 j3)
  refine K _ _ _ _ _ o1 (n_E_tr (n_E_tr hE2 n_E_pop (Int.le_refl _) (Int.le_refl _) (Nat.le_refl _)) o2 (Int.le_refl _) (Int.le_refl _) (Nat.le_refl _)) (by omega) rfl ?_ ?_
  · show s2.1 31 + -1 = _
    omega
  · show s2.1 32 = _
    rw [j6, k6']
/-- a branch -/
theorem n_kIf {a x y g : Int} (hL : n_LO Z d b P) (hd : 6 ≤ d) (hI : n_IH P b r h i s D H O Q z f) (hk : s.2 38 f.toNat = 2) (hc : n_ch s O (s.2 39 f.toNat) f [a, x, y, g]) : P (n_push (n_push s 3 f 0) 0 (s.2 40 x.toNat) 0) := by
  obtain ⟨IH, hB, hi, hf, hH, hr, hm, hs, K⟩ := hI
  obtain ⟨m1, m2, m3, m4⟩ := n_RM_1 hm
  have hF := hB.2.2.1.1
  have hd0 := hB.2.2.2.2.1.2.1
  obtain ⟨ff, -, -, -⟩ := n_form1 hF hf
  obtain ⟨x1, x2, x3, -, -⟩ := n_cl (x := x) hF hc (by simp) hf hH n_old_rf
  obtain ⟨u1, u2, u3, u4⟩ := n_pushed (s := s) (k := 3) (x := f) (y := 0) hi
  have E0 : n_E i (s.1 32) z s D H O (n_push s 3 f 0) D H O := n_E_push (by omega) (by omega)
  refine n_sub (i := i + 1) IH (n_BI_push hB) (by rw [u1]; omega) x1 x3 hr m1 hs ?_
  intro s1 D1 H1 O1 z1 k1 k2 k3 k4 k5 k6
  obtain ⟨w1, w2, w3⟩ := k2.2.2.2.2.1 i (by omega)
  have k5 : s1.1 31 = s.1 31 + 1 := k5
  have k6 : s1.1 32 = s.1 32 := k6
  have hE : n_E i (s.1 32) z s D H O s1 D1 H1 O1 := n_E_tr E0 k2 (by omega) (Int.le_refl _) (Nat.le_refl _)
  obtain ⟨y1, y2, y3, y4, -⟩ := n_cl (x := y) hF hc (by simp) hf hH hE.1
  have e39 := (hE.1.2.2.1 f.toNat (by omega)).2.1
  have c1 := n_ch_old hc hE.1
  have hB1 := n_BI_pop (x := (i : Int)) k1
  have hz1 : s1.1 30 = (z1 : Int) := k1.2.1.1
  have hz2 := k1.2.1.2.1
  refine n_go hL (i := i) (by rw [k4]; omega) (by omega) k1.2.1.2.2 (k := 3) (x := f) (y := 0) (by rw [w1]; exact u2) (by rw [w2]; exact u3) (by rw [w3]; exact u4) ?_
  refine n_pf3 (d := d + 3) (s := (n_upd s1.1 29 i, s1.2)) (xs := [a, x, y, g]) (c := y) (by omega) ff (by show n_isch s1.2 (s1.2 39 f.toNat) _; rw [e39]; exact c1.1) rfl ⟨by show 0 ≤ (i : Int); omega, by show (i : Int) < 298; omega⟩ ⟨by show 0 ≤ s1.1 30; omega, by show s1.1 30 < 240; omega⟩ (Or.inl k1.2.1.2.2) ⟨rfl, ?_⟩
  refine n_bad hL (n_bf_push (n_bf_fd (n_bf_e (n_bf_e (n_bf_push (n_bf_e hB1.1)))) (by decide))) ⟨by show 0 ≤ s1.1 30 + 1 + 1 + 1; omega, by show s1.1 30 + 1 + 1 + 1 ≤ 260; omega⟩ ⟨by show 0 ≤ (i : Int) + 1 + 1; omega, by show (i : Int) + 1 + 1 ≤ 300; omega⟩ (n_T01 _) (fun h0 => ?_)
  have e30 : (n_upd s1.1 29 (i : Int), s1.2).1 30 + 1 = (z1 : Int) + 1 := by show s1.1 30 + 1 = _; omega
  rw [e30] at h0 ⊢
  obtain ⟨o1, o2, o3, o4, o5⟩ := n_jmp (i := i) (v := s.1 32) (w := z1) (op := 8) (k := 4) (x := f) (y := (z1 : Int) + 1) hB1 rfl (Or.inr rfl) (by show 1 ≤ s1.1 31; omega) h0 (Nat.le_refl _)
  have hEu := n_E_tr (n_E_tr hE (n_E_pop (x := (i : Int)) (i := (i : Int)) (v := s.1 32) (w := z)) (Int.le_refl _) (Int.le_refl _) (Nat.le_refl _)) o2 (Int.le_refl _) (Int.le_refl _) k3
  obtain ⟨y1, y2, y3, y4, -⟩ := n_cl (x := y) hF hc (by simp) hf hH hEu.1
  show P (n_push _ 0 (s1.2 40 y.toNat) 0)
  rw [(n_cl (x := y) hF hc (by simp) hf hH hE.1).2.2.2.1]
  have D1z : D1 z1 = s1.1 31 := k1.2.2.2.2.1.1
  refine n_sub (i := i + 1) IH o1 (by show (i : Int) + 1 = _; omega) ⟨y1.1, y2⟩ y3 (by have := hEu.2.1; omega) (by show n_RM (i + 1) (s1.1 32) r h; rw [k6]; exact m1) (n_SB_E hs hEu k6 (by show s.1 31 ≤ s1.1 31 + -1; omega)) ?_
  intro s2 D2 H2 O2 z2 j1 j2 j3 j4 j5 j6
  obtain ⟨w1, w2, w3⟩ := j2.2.2.2.2.1 i (by omega)
  have j5 : s2.1 31 = s1.1 31 + -1 + 1 := j5
  have j6 : s2.1 32 = s1.1 32 := j6
  have hE2 : n_E i (s.1 32) z s D H O s2 D2 H2 O2 := n_E_tr hEu j2 (by omega) (by rw [← k6]; exact Int.le_refl _) (by omega)
  have e39 := (hE2.1.2.2.1 f.toNat (by omega)).2.1
  have c2 := n_ch_old hc hE2.1
  have hB2 := n_BI_pop (x := (i : Int)) j1
  have hz3 : s2.1 30 = (z2 : Int) := j1.2.1.1
  have hz4 := j1.2.1.2.1
  have D2z1 : D2 z1 = s1.1 31 := by rw [j2.2.2.2.1 z1 (by omega), n_u_ne (by omega)]; exact D1z
  have c2z1 : s2.2 47 z1 = 8 := by rw [j2.2.2.1 z1 (by omega)]; exact o5
  refine n_go hL (i := i) (by rw [j4]; omega) (by omega) j1.2.1.2.2 (k := 4) (x := f) (y := (z1 : Int) + 1) (by rw [w1]; exact o3.1) (by rw [w2]; exact o3.2.1) (by rw [w3]; exact o3.2.2) ?_
  refine n_pf4 (d := d + 3) (s := (n_upd s2.1 29 i, s2.2)) (xs := [a, x, y, g]) (c := g) (by omega) ff (by show n_isch s2.2 (s2.2 39 f.toNat) _; rw [e39]; exact c2.1) rfl ⟨by show 0 ≤ (i : Int); omega, by show (i : Int) < 298; omega⟩ ⟨by show 0 ≤ s2.1 30; omega, by show s2.1 30 < 240; omega⟩ (Or.inl j1.2.1.2.2) ⟨by omega, by omega⟩ ⟨rfl, ?_⟩
  refine n_bad hL (n_bf_push (n_bf_fd (n_bf_aim (n_bf_e (n_bf_e (n_bf_push (n_bf_e hB2.1))))) (by decide))) ⟨by show 0 ≤ s2.1 30 + 1 + 1 + 1; omega, by show s2.1 30 + 1 + 1 + 1 ≤ 260; omega⟩ ⟨by show 0 ≤ (i : Int) + 1 + 1; omega, by show (i : Int) + 1 + 1 ≤ 300; omega⟩ (n_T01 _) (fun h0 => ?_)
  have e30 : (n_upd s2.1 29 (i : Int), s2.2).1 30 + 1 = (z2 : Int) + 1 := by show s2.1 30 + 1 = _; omega
  rw [e30] at h0 ⊢
  obtain ⟨p1, p2, p3, p4, p5⟩ := n_jmp (i := i) (v := s.1 32) (w := z2) (op := 7) (k := 5) (x := (z2 : Int) + 1) (y := 0) hB2 rfl (Or.inl rfl) (by show 1 ≤ s2.1 31; omega) h0 (Nat.le_refl _)
  have q1 := n_BI_aim (p := z1) (Q' := fun q => Q q ∨ q = z2 + 1) p1 (by rw [n_u_ne (by omega), D2z1]; omega) (by omega) (Or.inr ⟨by rw [p2.2.2.1 z1 (by omega)]; exact c2z1, by rw [n_u_ne (by omega), D2z1]; show s2.1 31 + -1 = _; omega⟩) (fun q hq hn => by
    rcases hq with (hq | hq) | hq
    · exact Or.inl hq
    · exact absurd hq hn
    · exact Or.inr hq)
  have hEv := n_E_tr (n_E_tr (n_E_tr hE2 (n_E_pop (x := (i : Int)) (i := (i : Int)) (v := s.1 32) (w := z)) (Int.le_refl _) (Int.le_refl _) (Nat.le_refl _)) p2 (Int.le_refl _) (Int.le_refl _) (by omega)) (n_E_aim (p := z1) (w := z) (j := (i : Int)) (v := s.1 32) k3) (Int.le_refl _) (Int.le_refl _) (Nat.le_refl _)
  obtain ⟨g1, g2, g3, -, -⟩ := n_cl (x := g) hF hc (by simp) hf hH hEv.1
  show P (n_push (n_aim (n_fd (n_e (n_e (n_push (n_e (n_upd s2.1 29 i, s2.2) 7) 5 ((z2 : Int) + 1) 0) 0) 0) 31 (-1)) ((z1 : Int) + 1)) 0 (s2.2 40 g.toNat) 0)
  rw [(n_cl (x := g) hF hc (by simp) hf hH hE2.1).2.2.2.1]
  refine n_sub (i := i + 1) IH q1 (by show (i : Int) + 1 = _; omega) ⟨g1.1, g2⟩ g3 (by have := hEv.2.1; omega) (by show n_RM (i + 1) (s2.1 32) r h; rw [j6, k6]; exact m1) (n_SB_E hs hEv (by show s2.1 32 = _; rw [j6, k6]) (by show s.1 31 ≤ s2.1 31 + -1; omega)) ?_
  intro s3 D3 H3 O3 z3 l1 l2 l3 l4 l5 l6
  have l5 : s3.1 31 = s2.1 31 + -1 + 1 := l5
  have l6 : s3.1 32 = s2.1 32 := l6
  obtain ⟨w1, w2, w3⟩ := l2.2.2.2.2.1 i (by omega)
  have hE3 : n_E i (s.1 32) z s D H O s3 D3 H3 O3 := n_E_tr hEv l2 (by omega) (by show s.1 32 ≤ s2.1 32; omega) (by omega)
  have hB3 := n_BI_pop (x := (i : Int)) l1
  have hz5 : s3.1 30 = (z3 : Int) := l1.2.1.1
  have hz6 := l1.2.1.2.1
  have D2z2 : D2 z2 = s2.1 31 := j1.2.2.2.2.1.1
  have D3z2 : D3 z2 = s2.1 31 := by rw [l2.2.2.2.1 z2 (by omega), n_u_ne (by omega)]; exact D2z2
  have c3z2 : s3.2 47 z2 = 7 := by
    rw [l2.2.2.1 z2 (by omega), n_aim47 (by omega) (by omega)]
    exact p5
  refine n_go hL (i := i) (by rw [l4]; omega) (by omega) l1.2.1.2.2 (k := 5) (x := (z2 : Int) + 1) (y := 0) (by rw [w1]; exact p3.1) (by rw [w2]; exact p3.2.1) (by rw [w3]; exact p3.2.2) ?_
  refine n_pf5 (d := d + 4) (by omega) ⟨by omega, by omega⟩ ⟨rfl, ?_⟩
  have q2 := n_BI_aim (p := z2) (Q' := Q) hB3 (by rw [D3z2]; omega) (by omega) (Or.inl ⟨c3z2, by rw [D3z2]; show s3.1 31 = _; omega⟩) (fun q hq hn => by
    rcases hq with hq | hq
    · exact hq
    · exact absurd hq hn)
  refine K _ _ _ _ _ q2 (n_E_tr (n_E_tr hE3 (n_E_pop (x := (i : Int)) (i := (i : Int)) (v := s.1 32) (w := z)) (Int.le_refl _) (Int.le_refl _) (Nat.le_refl _)) (n_E_aim (p := z2) (w := z) (j := (i : Int)) (v := s.1 32) (by omega)) (Int.le_refl _) (Int.le_refl _) (Nat.le_refl _)) (by omega) rfl ?_ ?_
  · show s3.1 31 = _
    omega
  · show s3.1 32 = _
    omega
end N42
