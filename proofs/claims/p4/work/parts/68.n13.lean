/-! THE REFERENCE READS: lists, and the loop -/
section N13
variable {Z : Nat → List Int32} {d n : Nat} {b s : nS} {Hb Ob H O : Nat → Int} {m B g fr wh W c : Int} {ap : Bool} {ys : List Int} {Post : nA → nS → Prop} {o8 o9 : Option nV}
theorem n_T0 {q : Bool} (h : n_T q = 0) : q = false := by
  cases q
  · rfl
  · exact absurd h (by decide)
theorem n_T1 {q : Bool} (h : ¬ n_T q = 0) : q = true := by
  cases q
  · exact absurd rfl h
  · rfl
theorem n_l298 {p7 : Int} (hd : 6 ≤ d) (hC : n_CX b Hb Ob m B g ys) (hK : n_BK Z d b Hb Ob m B g fr Post W n) (hS : n_SX b Hb Ob m B s H O wh true) (hn : n_lenT b m - s.1 23 ≤ n) (hwn : wh = -1) (hcc : n_at1 b m (s.1 23) = c) (hc : ¬ c = 0) (hrp : n_rpE (n_at1 b m) (decide (0 ≤ m)) n (n_atomEnd (n_at1 b m) (s.1 23)) (s.1 25) false (if 0 < s.1 25 then false else true) W) : NP Z (d + 2) 111 298 (n_L10 m fr g wh true (some (xI c)) (some (xI p7)) o8 o9) [] s Post := by
  have h5 := n_l335 (p6 := c) (p7 := p7) (o8 := o8) (o9 := o9) hd hC hK hS hn hwn (by rw [hcc]; exact hc) hrp
  have h330 : n_isNum (n_at1 b m) (s.1 23) = true → NP Z (d + 2) 111 330 (n_L10 m fr g wh true (some (xI c)) (some (xI p7)) o8 o9) [] s Post := fun h => n_at nb111_330 (by omega) rfl (by rw [h] at h5; exact h5)
  have h334 : n_isNum (n_at1 b m) (s.1 23) = false → NP Z (d + 2) 111 334 (n_L10 m fr g wh true (some (xI c)) (some (xI p7)) o8 o9) [] s Post := fun h => n_at nb111_334 (by omega) rfl (by rw [h] at h5; exact h5)
  have hT := hC.1
  have hfr := hS.1.1
  have hTs := n_fr_TX hfr hT
  have hlen := n_len_b hT
  have N1 := hS.2.1.1
  have hcb := n_at1_b (k := s.1 23) hT
  have hcb1 := n_at1_b (k := s.1 23 + 1) hT
  rw [hcc] at hcb
  have hcr : n_rng c := ⟨by omega, by omega⟩
  refine n_at nb111_298 (by omega) rfl ?_
  refine n_is (vs := [xI c]) (r := []) nn113 (by simp) (ng113 (by omega) hcr) (fun r s' hr => ?_)
  rw [hr.1, hr.2]
  refine ⟨n_rngT _, fun z => h330 (by simp [n_isNum, hcc, n_T1 z]), fun z => ?_⟩
  have z1 := n_T0 z
  refine ⟨hcr, ⟨by decide, by decide⟩, fun z => h334 (by simp [n_isNum, hcc, z1, z]), fun z45 => ?_⟩
  refine n_iv (vs := [xR 25, xI m, xI (s.1 23 + 1)]) (r := []) nn112 (by simp) rfl nc112 (ng112p (S := s.1) (by omega) hTs rfl ⟨by omega, by omega⟩) (fun r s' hr => ?_)
  rw [hr.1, hr.2, n_fr_at hfr]
  refine n_is (vs := [xI (n_at1 b m (s.1 23 + 1))]) (r := []) nn113 (by simp) (ng113 (by omega) ⟨by omega, by omega⟩) (fun r s' hr => ?_)
  rw [hr.1, hr.2]
  refine ⟨n_rngT _, fun z => h334 (by simp [n_isNum, hcc, z1, n_T0 z]), fun z => h330 (by simp [n_isNum, hcc, n_T1 z, z45])⟩
/-- a list is opened -/
theorem n_l251 {s2 : nS} {H2 O2 : Nat → Int} {f p6 p7 : Int} (hd : 6 ≤ d) (h17 : 0 ≤ b.1 17) (hK : n_BK Z d b Hb Ob m B g fr Post W n) (r1 : n_RW b Hb Ob B s2 H2 O2) (a0 : 0 ≤ s2.1 23 ∧ s2.1 23 < n_lenT b m) (a1 : n_lenT b m - s2.1 23 ≤ n) (a2 : 0 ≤ s2.1 25 ∧ s2.1 25 < 8) (a3 : s2.1 24 = -1) (a4 : 4 * (s2.1 17 - b.1 17) ≤ 3 * s2.1 23 + 2 * s2.1 25 + 5) (a5 : 4 * (s2.1 18 - b.1 18) ≤ 3 * s2.1 23 + 2 * s2.1 25 + 5) (a6 : b.1 17 ≤ f ∧ f < s2.1 17) (a7 : H2 f.toNat = B + 8 - s2.1 25) (hwn : wh = -1) (hrp : n_rpE (n_at1 b m) (decide (0 ≤ m)) n (s2.1 23 + 1) (s2.1 25 + 1) true (decide (0 ≤ wh)) W) : NP Z (d + 2) 111 251 (n_L10 m fr g wh ap (some (xI p6)) (some (xI p7)) (some (xI f)) o9) [] s2 Post := by
  refine n_at nb111_251 (by omega) rfl ?_
  refine ⟨⟨by show 0 ≤ s2.1 25 + 1; omega, by show s2.1 25 + 1 < 9; omega⟩, ⟨by show 0 ≤ s2.1 25 + 1; omega, by show s2.1 25 + 1 < 9; omega⟩, ?_⟩
  refine n_bk (s1 := n_op s2 f) (H1 := H2) (O1 := O2) (wh1 := wh) (ap1 := true) hd hK _ _ _ _ (n_RW_op r1 h17 a2.1 a6 a7) ⟨⟨?_, ?_⟩, ⟨?_, ?_⟩, ?_, ?_, Or.inl hwn⟩ a3 ?_ hrp
  · show 0 ≤ s2.1 23 + 1; omega
  · show s2.1 23 + 1 ≤ _; omega
  · show 0 ≤ s2.1 25 + 1; omega
  · show s2.1 25 + 1 ≤ 8; omega
  · show 4 * (s2.1 17 - b.1 17) ≤ 3 * (s2.1 23 + 1) + 2 * (s2.1 25 + 1) + (1 - 1); omega
  · show 4 * (s2.1 18 - b.1 18) ≤ 3 * (s2.1 23 + 1) + 2 * (s2.1 25 + 1) + (1 - 1); omega
  · show _ - (s2.1 23 + 1) < _; omega
theorem n_l223 {p7 : Int} (hd : 6 ≤ d) (hC : n_CX b Hb Ob m B g ys) (hK : n_BK Z d b Hb Ob m B g fr Post W n) (hS : n_SX b Hb Ob m B s H O wh ap) (hn : n_lenT b m - s.1 23 ≤ n) (hwn : wh = -1) (hcc : n_at1 b m (s.1 23) = c) (hc : ¬ c = 0) (y2 : c = 40 ∨ ap = true) (y3 : ¬ (c = 40 ∧ s.1 25 = 8))
    (hr1 : c = 40 → n_rpE (n_at1 b m) (decide (0 ≤ m)) n (s.1 23 + 1) (s.1 25 + 1) true (decide (0 ≤ wh)) W)
    (hr2 : ¬ c = 40 → n_rpE (n_at1 b m) (decide (0 ≤ m)) n (n_atomEnd (n_at1 b m) (s.1 23)) (s.1 25) false (if 0 < s.1 25 then false else true) W) : NP Z (d + 2) 111 223 (n_L10 m fr g wh ap (some (xI c)) (some (xI p7)) o8 o9) [] s Post := by
  obtain ⟨hT, hB, h17, h18, -⟩ := id hC
  obtain ⟨hR, ⟨N1, N2, N3, N4, N5⟩, h24⟩ := id hS
  have hlen := n_len_b hT
  have hFI := hR.2.1
  have hap := n_T01 ap
  have hcb := n_at1_b (k := s.1 23) hT
  rw [hcc] at hcb
  have hcl : s.1 23 < n_lenT b m := by
    apply Classical.byContradiction
    intro hcn
    have := n_at1_0 (s := b) (m := m) (k := s.1 23) (by omega)
    omega
  have f17 : 0 ≤ s.1 17 ∧ s.1 17 < 1299 := ⟨hFI.1.1, by omega⟩
  have f18 : 0 ≤ s.1 18 ∧ s.1 18 < 1299 := ⟨hFI.2.1.1, by omega⟩
  have hold := hR.2.2.1
  have hold1 := hold.1
  refine n_at nb111_223 (by omega) rfl ?_
  refine ⟨⟨by omega, by omega⟩, ⟨by decide, by decide⟩, fun z => ?_, fun z => ?_⟩
  · have y6 := y2.resolve_left z
    subst y6
    exact n_l298 hd hC hK hS hn hwn hcc hc (hr2 z)
  · have y7 : ¬ s.1 25 = 8 := fun h => y3 ⟨z, h⟩
    refine n_iv (vs := [xR 25, xI 2, xI (-1)]) (r := []) nn116 (by simp) rfl nc116 (ng116 (s := s) (w := 2) (v := -1) (by omega) ⟨f17.1, by omega⟩) (fun r s' hr => ?_)
    rw [hr.1, hr.2]
    have hmk := n_RW_mk (w := 2) (v := -1) (hh := B + 8 - s.1 25) hR h17.1 (by omega) (by decide) (fun _ => ⟨by decide, by decide⟩) (fun _ => rfl) (by omega)
    refine ⟨⟨by show _ ≤ s.1 25; omega, by show s.1 25 < _; omega⟩, fun z2 => ?_, fun z2 => ?_⟩
    · refine n_l251 (s2 := n_mk s 2 (-1)) (f := s.1 17) hd h17.1 hK hmk ⟨N1.1, hcl⟩ hn ⟨N2.1, ?_⟩ h24 ?_ ?_ ⟨hold1, ?_⟩ n_u_eq hwn (hr1 z)
      · show s.1 25 < 8; omega
      · show 4 * (s.1 17 + 1 - b.1 17) ≤ 3 * s.1 23 + 2 * s.1 25 + 5; omega
      · show 4 * (s.1 18 - b.1 18) ≤ 3 * s.1 23 + 2 * s.1 25 + 5; omega
      · show s.1 17 < s.1 17 + 1; omega
    · have z2 : ¬ s.1 25 ≤ 0 := z2
      have hLV := hmk.2.2.2 (s.1 25).toNat (by omega) (by show ((s.1 25).toNat : Int) ≤ s.1 25; omega)
      obtain ⟨⟨v1, v2⟩, v3, v4⟩ := hLV
      have e17 : (n_mk s 2 (-1)).1 17 = s.1 17 + 1 := rfl
      have e18 : (n_mk s 2 (-1)).1 18 = s.1 18 := rfl
      have e25 : (n_mk s 2 (-1)).1 25 = s.1 25 := rfl
      have hj := ng117 (Z := Z) (d := d + 1) (s := n_mk s 2 (-1)) (f := s.1 17) (by omega) ⟨f18.1, by rw [e18]; omega⟩ ⟨by rw [e25]; omega, by rw [e25]; omega⟩ (by rw [e25]; exact ⟨by rcases v4 with v4 | v4; rw [v4]; exact ⟨by decide, by decide⟩; exact ⟨by omega, by omega⟩, by rcases v4 with v4 | v4 <;> omega⟩) (by rw [e25]; exact ⟨by omega, by omega⟩)
      refine n_iv (vs := [xR 25, xI (s.1 17)]) (r := []) nn117 (by simp) rfl nc117 hj (fun r s' hr => ?_)
      rw [hr.1, hr.2]
      have hRW := n_RW_jn (f := s.1 17) hmk ⟨h17.1, h18.1⟩ (by rw [e25]; omega) (by rw [e18]; omega) ⟨f17.1, by rw [e17]; omega⟩ (by rw [n_u_eq, e25]; omega)
      refine n_l251 (s2 := n_jn (n_mk s 2 (-1)) (s.1 17)) (f := s.1 17) hd h17.1 hK hRW ⟨N1.1, hcl⟩ hn ⟨N2.1, ?_⟩ h24 ?_ ?_ ⟨hold1, ?_⟩ n_u_eq hwn (hr1 z)
      · show s.1 25 < 8; omega
      · show 4 * (s.1 17 + 1 - b.1 17) ≤ 3 * s.1 23 + 2 * s.1 25 + 5; omega
      · show 4 * (s.1 18 + 1 - b.1 18) ≤ 3 * s.1 23 + 2 * s.1 25 + 5; omega
      · show s.1 17 < s.1 17 + 1; omega
/-- a wrong character -/
theorem n_l212 (hd : 6 ≤ d) (hP : n_PX b Hb Ob B Post W) (hR : n_RW b Hb Ob B s H O) (hp : 0 ≤ s.1 23 ∧ s.1 23 ≤ 200) (hW : W = s.1 23) (p6 p7 p8 p9 : Option nV) : NP Z (d + 2) 111 212 (n_L10 m fr g wh ap p6 p7 p8 p9) [] s Post := by
  refine n_at nb111_212 (by omega) rfl ?_
  refine n_at nb111_381 (by omega) rfl ?_
  refine n_at nb111_21 (by omega) rfl ?_
  refine ⟨⟨by show _ ≤ s.1 23; omega, by show s.1 23 < _; omega⟩, fun _ => ?_, fun z => ?_⟩
  · refine n_at nb111_384 (by omega) rfl ?_
    exact hP.2 (by omega) _ _ (n_RW_W hR).1 (by show s.1 23 = W; omega)
  · exact absurd (show 0 ≤ s.1 23 from hp.1) z
end N13
