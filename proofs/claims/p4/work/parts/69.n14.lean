/-! THE REFERENCE READS: its loop, and its contract -/
section N14
variable {ch : Int → Int} {mac : Bool} {n : Nat} {p o W : Int} {ap wh : Bool}
theorem n_rpE_1 (h : n_rpE ch mac (n + 1) p o ap wh W) (h1 : wh = true ∧ mac = true) : W = -1 := by
  unfold n_rpE n_rp at h
  rw [if_pos h1] at h
  exact h.symm
theorem n_rpE_2 (h : n_rpE ch mac (n + 1) p o ap wh W) (h1 : ¬ (wh = true ∧ mac = true)) (h2 : ch p = 32) : n_rpE ch mac n (p + 1) o true wh W := by
  unfold n_rpE n_rp at h
  rw [if_neg h1, if_pos h2] at h
  exact h
theorem n_rpE_3 (h : n_rpE ch mac (n + 1) p o ap wh W) (h1 : ¬ (wh = true ∧ mac = true)) (h2 : ¬ ch p = 32) (h3 : ch p = 0 ∧ wh = true) : W = -1 := by
  unfold n_rpE n_rp at h
  rw [if_neg h1, if_neg h2, if_pos h3] at h
  exact h.symm
theorem n_rpE_4 (h : n_rpE ch mac (n + 1) p o ap wh W) (h1 : ¬ (wh = true ∧ mac = true)) (h2 : ¬ ch p = 32) (h3 : ¬ (ch p = 0 ∧ wh = true)) (h4 : ch p = 41 ∧ 0 < o) : n_rpE ch mac n (p + 1) (o - 1) true (decide (o - 1 = 0)) W := by
  unfold n_rpE n_rp at h
  rw [if_neg h1, if_neg h2, if_neg h3, if_pos h4] at h
  exact h
theorem n_rpE_5 (h : n_rpE ch mac (n + 1) p o ap wh W) (h1 : ¬ (wh = true ∧ mac = true)) (h2 : ¬ ch p = 32) (h3 : ¬ (ch p = 0 ∧ wh = true)) (h4 : ¬ (ch p = 41 ∧ 0 < o)) (h5 : wh = true ∨ (¬ ch p = 40 ∧ ¬ (c_beg (ch p) = true ∧ ap = true)) ∨ (ch p = 40 ∧ o = 8)) : W = p := by
  unfold n_rpE n_rp at h
  rw [if_neg h1, if_neg h2, if_neg h3, if_neg h4, if_pos h5] at h
  exact h.symm
theorem n_rpE_6 (h : n_rpE ch mac (n + 1) p o ap wh W) (h1 : ¬ (wh = true ∧ mac = true)) (h2 : ¬ ch p = 32) (h3 : ¬ (ch p = 0 ∧ wh = true)) (h4 : ¬ (ch p = 41 ∧ 0 < o)) (h5 : ¬ (wh = true ∨ (¬ ch p = 40 ∧ ¬ (c_beg (ch p) = true ∧ ap = true)) ∨ (ch p = 40 ∧ o = 8))) (h6 : ch p = 40) : n_rpE ch mac n (p + 1) (o + 1) true wh W := by
  unfold n_rpE n_rp at h
  rw [if_neg h1, if_neg h2, if_neg h3, if_neg h4, if_neg h5, if_pos h6] at h
  exact h
theorem n_rpE_7 (h : n_rpE ch mac (n + 1) p o ap wh W) (h1 : ¬ (wh = true ∧ mac = true)) (h2 : ¬ ch p = 32) (h3 : ¬ (ch p = 0 ∧ wh = true)) (h4 : ¬ (ch p = 41 ∧ 0 < o)) (h5 : ¬ (wh = true ∨ (¬ ch p = 40 ∧ ¬ (c_beg (ch p) = true ∧ ap = true)) ∨ (ch p = 40 ∧ o = 8))) (h6 : ¬ ch p = 40) : n_rpE ch mac n (n_atomEnd ch p) o false (if 0 < o then wh else true) W := by
  unfold n_rpE n_rp at h
  rw [if_neg h1, if_neg h2, if_neg h3, if_neg h4, if_neg h5, if_neg h6] at h
  exact h
end N14
section N15
variable {Z : Nat → List Int32} {d n : Nat} {b s : nS} {Hb Ob H O : Nat → Int} {m B g fr wh W c : Int} {ap : Bool} {ys : List Int} {Post : nA → nS → Prop} {o7 o8 o9 : Option nV}
theorem n_whd : (decide (0 ≤ wh)) = true ↔ 0 ≤ wh := decide_eq_true_iff
theorem n_l174 (hd : 6 ≤ d) (hC : n_CX b Hb Ob m B g ys) (hP : n_PX b Hb Ob B Post W) (hK : n_BK Z d b Hb Ob m B g fr Post W n) (hS : n_SX b Hb Ob m B s H O wh ap) (hn : n_lenT b m - s.1 23 ≤ n) (hcc : n_at1 b m (s.1 23) = c) (hE : n_rpE (n_at1 b m) (decide (0 ≤ m)) (n + 1) (s.1 23) (s.1 25) ap (decide (0 ≤ wh)) W) (y0 : ¬ (0 ≤ wh ∧ 0 ≤ m)) (y1 : ¬ c = 32) (y2 : ¬ (c = 0 ∧ 0 ≤ wh)) (y3 : ¬ (c = 41 ∧ 0 < s.1 25)) : NP Z (d + 2) 111 174 (n_L10 m fr g wh ap (some (xI c)) (some (xI (n_T (c_beg c)))) o8 o9) [] s Post := by
  subst hcc
  have hT := hC.1
  obtain ⟨hR, ⟨N1, N2, N3, N4, N5⟩, h24⟩ := id hS
  have hlen := n_len_b hT
  have hcb := n_at1_b (k := s.1 23) hT
  have hFI := hR.2.1
  have k0 : ¬ ((decide (0 ≤ wh)) = true ∧ (decide (0 ≤ m)) = true) := fun h => y0 ⟨of_decide_eq_true h.1, of_decide_eq_true h.2⟩
  have k2 : ¬ (n_at1 b m (s.1 23) = 0 ∧ (decide (0 ≤ wh)) = true) := fun h => y2 ⟨h.1, of_decide_eq_true h.2⟩
  have hwr : n_rng wh := by
    have := hFI.1
    rcases N5 with N5 | N5
    · exact ⟨by omega, by omega⟩
    · exact ⟨by omega, by omega⟩
  have hcr : n_rng (n_at1 b m (s.1 23)) := ⟨by omega, by omega⟩
  have hbad : ((decide (0 ≤ wh)) = true ∨ (¬ n_at1 b m (s.1 23) = 40 ∧ ¬ (c_beg (n_at1 b m (s.1 23)) = true ∧ ap = true)) ∨ (n_at1 b m (s.1 23) = 40 ∧ s.1 25 = 8)) → NP Z (d + 2) 111 212 (n_L10 m fr g wh ap (some (xI (n_at1 b m (s.1 23)))) (some (xI (n_T (c_beg (n_at1 b m (s.1 23)))))) o8 o9) [] s Post := fun h => n_l212 hd hP hR ⟨N1.1, by omega⟩ (n_rpE_5 hE k0 y1 k2 y3 h) _ _ _ _
  have h223 : ¬ 0 ≤ wh → (n_at1 b m (s.1 23) = 40 ∨ (c_beg (n_at1 b m (s.1 23)) = true ∧ ap = true)) → ¬ (n_at1 b m (s.1 23) = 40 ∧ s.1 25 = 8) → NP Z (d + 2) 111 223 (n_L10 m fr g wh ap (some (xI (n_at1 b m (s.1 23)))) (some (xI (n_T (c_beg (n_at1 b m (s.1 23)))))) o8 o9) [] s Post := by
    intro q1 q2 q3
    have q1' : ¬ (decide (0 ≤ wh)) = true := fun h => q1 (of_decide_eq_true h)
    have hwn : wh = -1 := by rcases N5 with N5 | N5 <;> omega
    have k5 : ¬ ((decide (0 ≤ wh)) = true ∨ (¬ n_at1 b m (s.1 23) = 40 ∧ ¬ (c_beg (n_at1 b m (s.1 23)) = true ∧ ap = true)) ∨ (n_at1 b m (s.1 23) = 40 ∧ s.1 25 = 8)) := by
      intro h
      rcases h with h | h | h
      · exact q1' h
      · exact q2.elim h.1 h.2
      · exact q3 h
    refine n_l223 hd hC hK hS hn hwn rfl ?_ (q2.imp id (fun h => h.2)) q3 (fun h => n_rpE_6 hE k0 y1 k2 y3 k5 h) (fun h => ?_)
    · intro h
      rcases q2 with q2 | q2
      · omega
      · rw [h] at q2
        exact absurd q2.1 (by decide)
    · have := n_rpE_7 hE k0 y1 k2 y3 k5 h
      rw [decide_eq_false q1] at this
      exact this
  have h196 : ¬ 0 ≤ wh → (n_at1 b m (s.1 23) = 40 ∨ (c_beg (n_at1 b m (s.1 23)) = true ∧ ap = true)) → NP Z (d + 2) 111 196 (n_L10 m fr g wh ap (some (xI (n_at1 b m (s.1 23)))) (some (xI (n_T (c_beg (n_at1 b m (s.1 23)))))) o8 o9) [] s Post := by
    intro q1 q2
    refine n_at nb111_196 (by omega) rfl ?_
    refine ⟨hcr, ⟨by decide, by decide⟩, fun z => h223 q1 q2 (fun h => z h.1), fun z => ?_⟩
    exact ⟨⟨by omega, by omega⟩, ⟨by decide, by decide⟩, fun z2 => h223 q1 q2 (fun h => z2 h.2), fun z2 => hbad (Or.inr (Or.inr ⟨z, z2⟩))⟩
  refine n_at nb111_174 (by omega) rfl ?_
  refine ⟨hwr, fun z => hbad (Or.inl (decide_eq_true z)), fun z => ?_⟩
  refine ⟨hcr, ⟨by decide, by decide⟩, fun z2 => h196 z (Or.inl z2), fun z2 => ?_⟩
  refine ⟨n_rngT _, fun z3 => hbad (Or.inr (Or.inl ⟨z2, fun h => by rw [n_T0 z3] at h; exact absurd h.1 (by decide)⟩)), fun z3 => ?_⟩
  exact ⟨n_rngT _, fun z4 => hbad (Or.inr (Or.inl ⟨z2, fun h => by rw [n_T0 z4] at h; exact absurd h.2 (by decide)⟩)), fun z4 => h196 z (Or.inr ⟨n_T1 z3, n_T1 z4⟩)⟩
theorem n_l115 (hd : 6 ≤ d) (hC : n_CX b Hb Ob m B g ys) (hP : n_PX b Hb Ob B Post W) (hK : n_BK Z d b Hb Ob m B g fr Post W n) (hS : n_SX b Hb Ob m B s H O wh ap) (hn : n_lenT b m - s.1 23 ≤ n) (hcc : n_at1 b m (s.1 23) = c) (hE : n_rpE (n_at1 b m) (decide (0 ≤ m)) (n + 1) (s.1 23) (s.1 25) ap (decide (0 ≤ wh)) W) (y0 : ¬ (0 ≤ wh ∧ 0 ≤ m)) (y1 : ¬ c = 32) (y2 : ¬ (c = 0 ∧ 0 ≤ wh)) : NP Z (d + 2) 111 115 (n_L10 m fr g wh ap (some (xI c)) (some (xI (n_T (c_beg c)))) o8 o9) [] s Post := by
  have h174 := fun y3 => n_l174 (o8 := o8) (o9 := o9) hd hC hP hK hS hn hcc hE y0 y1 y2 y3
  have hT := hC.1
  have h17 := hC.2.2.1
  obtain ⟨hR, ⟨N1, N2, N3, N4, N5⟩, h24⟩ := id hS
  have hlen := n_len_b hT
  have hap := n_T01 ap
  have hcb := n_at1_b (k := s.1 23) hT
  rw [hcc] at hcb
  refine n_at nb111_115 (by omega) rfl ?_
  refine ⟨⟨by omega, by omega⟩, ⟨by decide, by decide⟩, fun z => h174 (fun h => z h.1), fun z => ?_⟩
  refine ⟨⟨by omega, by omega⟩, fun z2 => h174 (fun h => by omega), fun z2 => ?_⟩
  have hrp := n_rpE_4 hE (fun h => y0 ⟨of_decide_eq_true h.1, of_decide_eq_true h.2⟩) (by rw [hcc]; exact y1) (by rw [hcc]; exact fun h => y2 ⟨h.1, of_decide_eq_true h.2⟩) ⟨by rw [hcc]; exact z, by omega⟩
  have hcl : s.1 23 < n_lenT b m := by
    apply Classical.byContradiction
    intro hcn
    have := n_at1_0 (s := b) (m := m) (k := s.1 23) (by omega)
    omega
  have hcs : n_RW b Hb Ob B (n_upd (n_upd s.1 23 (s.1 23 + 1)) 25 (s.1 25 - 1), s.2) H O := n_RW_close (n_RW_P hR) (by show s.1 25 - 1 ≤ s.1 25; omega)
  have h169 : ∀ wh1 : Int, (wh1 = -1 ∨ (0 ≤ wh1 ∧ wh1 < s.1 17 ∧ H wh1.toNat ≤ B + 8 ∧ s.1 25 - 1 = 0)) → decide (0 ≤ wh1) = decide (s.1 25 - 1 = 0) → NP Z (d + 2) 111 169 (n_L10 m fr g wh true (some (xI c)) (some (xI (n_T (c_beg c)))) o8 o9) [xI wh1] (n_upd (n_upd s.1 23 (s.1 23 + 1)) 25 (s.1 25 - 1), s.2) Post := by
    intro wh1 q1 q2
    refine n_at nb111_169 (by omega) rfl ?_
    refine n_bk (s1 := (n_upd (n_upd s.1 23 (s.1 23 + 1)) 25 (s.1 25 - 1), s.2)) (H1 := H) (O1 := O) (wh1 := wh1) (ap1 := true) hd hK _ _ _ _ hcs ⟨⟨?_, ?_⟩, ⟨?_, ?_⟩, ?_, ?_, q1⟩ h24 ?_ ?_
    · show 0 ≤ s.1 23 + 1; omega
    · show s.1 23 + 1 ≤ _; omega
    · show 0 ≤ s.1 25 - 1; omega
    · show s.1 25 - 1 ≤ 8; omega
    · show 4 * (s.1 17 - b.1 17) ≤ 3 * (s.1 23 + 1) + 2 * (s.1 25 - 1) + (1 - 1); omega
    · show 4 * (s.1 18 - b.1 18) ≤ 3 * (s.1 23 + 1) + 2 * (s.1 25 - 1) + (1 - 1); omega
    · show _ - (s.1 23 + 1) < _; omega
    · rw [q2]
      exact hrp
  refine ⟨⟨by show _ ≤ s.1 25 - 1; omega, by show s.1 25 - 1 < _; omega⟩, fun z3 => ?_, fun z3 => ?_⟩
  · have z3 : ¬ s.1 25 - 1 = 0 := z3
    refine n_at nb111_168 (by omega) rfl (h169 (-1) (Or.inl rfl) ?_)
    rw [decide_eq_false z3]
    rfl
  · have z3 : s.1 25 - 1 = 0 := z3
    have hLV := hR.2.2.2 1 (by omega) (by omega)
    obtain ⟨⟨v1, v2⟩, v3, v4⟩ := hLV
    refine ⟨⟨by decide, by decide⟩, h169 (s.2 42 1) (Or.inr ⟨by omega, v2, by omega, z3⟩) ?_⟩
    rw [decide_eq_true z3]
    exact decide_eq_true (by omega)
theorem n_l77 (hd : 6 ≤ d) (hC : n_CX b Hb Ob m B g ys) (hP : n_PX b Hb Ob B Post W) (hK : n_BK Z d b Hb Ob m B g fr Post W n) (hS : n_SX b Hb Ob m B s H O wh ap) (hn : n_lenT b m - s.1 23 ≤ n) (hcc : n_at1 b m (s.1 23) = c) (hE : n_rpE (n_at1 b m) (decide (0 ≤ m)) (n + 1) (s.1 23) (s.1 25) ap (decide (0 ≤ wh)) W) (y0 : ¬ (0 ≤ wh ∧ 0 ≤ m)) : NP Z (d + 2) 111 77 (n_L10 m fr g wh ap (some (xI c)) o7 o8 o9) [xI (n_T (c_beg c))] s Post := by
  have hT := hC.1
  have k0 : ¬ ((decide (0 ≤ wh)) = true ∧ (decide (0 ≤ m)) = true) := fun h => y0 ⟨of_decide_eq_true h.1, of_decide_eq_true h.2⟩
  obtain ⟨hR, ⟨N1, N2, N3, N4, N5⟩, h24⟩ := id hS
  have hlen := n_len_b hT
  have hap := n_T01 ap
  have hcb := n_at1_b (k := s.1 23) hT
  rw [hcc] at hcb
  have hcr : n_rng c := ⟨by omega, by omega⟩
  have hFI := hR.2.1
  have hwr : n_rng wh := by
    have := hFI.1
    rcases N5 with N5 | N5
    · exact ⟨by omega, by omega⟩
    · exact ⟨by omega, by omega⟩
  have h102 : ¬ c = 32 → NP Z (d + 2) 111 102 (n_L10 m fr g wh ap (some (xI c)) (some (xI (n_T (c_beg c)))) o8 o9) [] s Post := by
    intro y1
    refine n_at nb111_102 (by omega) rfl ?_
    refine ⟨hcr, fun z => n_l115 hd hC hP hK hS hn hcc hE y0 y1 (fun h => z h.1), fun z => ?_⟩
    refine ⟨hwr, fun z2 => n_l115 hd hC hP hK hS hn hcc hE y0 y1 (fun h => by omega), fun z2 => ?_⟩
    have hW := n_rpE_3 hE k0 (by rw [hcc]; exact y1) ⟨by rw [hcc]; exact z, decide_eq_true (by omega)⟩
    rcases N5 with N5 | N5
    · omega
    · have := hC.2.2.1
      have := hC.2.2.2.1
      exact hP.1 hW s H O wh hR N5.1 N5.2.1 N5.2.2.1 (by omega) (by omega) h24
  refine n_at nb111_77 (by omega) rfl ?_
  refine ⟨hcr, ⟨by decide, by decide⟩, fun z => h102 z, fun z => ?_⟩
  have hrp := n_rpE_2 hE k0 (by rw [hcc]; exact z)
  have hcl : s.1 23 < n_lenT b m := by
    apply Classical.byContradiction
    intro hcn
    have := n_at1_0 (s := b) (m := m) (k := s.1 23) (by omega)
    omega
  refine n_bk (s1 := (n_upd s.1 23 (s.1 23 + 1), s.2)) (H1 := H) (O1 := O) (wh1 := wh) (ap1 := true) hd hK _ _ _ _ (n_RW_P hR) ⟨⟨?_, ?_⟩, N2, ?_, ?_, N5⟩ h24 ?_ hrp
  · show 0 ≤ s.1 23 + 1; omega
  · show s.1 23 + 1 ≤ _; omega
  · show 4 * (s.1 17 - b.1 17) ≤ 3 * (s.1 23 + 1) + 2 * s.1 25 + (1 - 1); omega
  · show 4 * (s.1 18 - b.1 18) ≤ 3 * (s.1 23 + 1) + 2 * s.1 25 + (1 - 1); omega
  · show _ - (s.1 23 + 1) < _; omega
end N15
