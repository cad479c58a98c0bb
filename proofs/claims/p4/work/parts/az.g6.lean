/-! THE LAW'S CASES -/
/-- between two calls: the class, the reference, n calls are left -/
def g_I (R : nS) (s : cS) (n : Nat) : Prop := n_MI R ∧ c_ok s ∧ g_fr s ∧ (160 * n ≤ (cq s).1 ∧ 1700 * n ≤ (cq s).2 ∧ cn s + (cq s).1 ≤ 1000000) ∧ s.1 1 1 = R.1 1 ∧ (∀ i : Nat, (i : Int) < s.1 1 1 → s.1 2 i = R.2 26 i) ∧ s.1 0 6 = R.1 3
abbrev g_Po : mm_A → mm_H → Prop := fun r _ => r = aX (vI 1)
def g_K (Z : Nat → List Int32) (i : Int32) (n : Nat) : Prop := ∀ (R : nS) (s : cS) (w : Int64) (a b : Option mm_V), g_I R s n → mm_P Z 300 166 396 (g_L i a b) [] (c_H (g_X R [w]) s) g_Po
section G6
variable {Z : Nat → List Int32} {d n m : Nat} {s s' : cS} {R R' : nS} {w x : Int64} {i : Int32} {a b : Option mm_V} {y1 y2 : Int}
theorem g_I_l (h : g_I R s (n + 1)) : g_I R s n := by
  obtain ⟨h1, h2, h3, ⟨h4, h5, h6⟩, h7⟩ := h
  exact ⟨h1, h2, h3, ⟨by omega, by omega, h6⟩, h7⟩
theorem g_I_R {r : nA} (h : g_I R s n) (hr : n_LKP R r R') : g_I R' s n := by
  obtain ⟨h1, h2, h3, h4, h5, h6, h7⟩ := h
  obtain _ | r := r
  · exact hr.elim
  · obtain ⟨k1, k2, k3, k4⟩ := hr
    exact ⟨k1, h2, h3, h4, by rw [k2]; exact h5, by rw [k4]; exact h6, by rw [k3]; exact h7⟩
theorem g_I_s (h : g_I R s (n + 1)) (h1 : c_ok s') (h2 : c_E s s') (h3 : c_tx s s') (h4 : c_bd s s' 160 1700) : g_I R s' n := by
  obtain ⟨g1, g2, g3, ⟨g4, g5, g6⟩, g7, g8, g9⟩ := h
  unfold c_bd at h4
  refine ⟨g1, h1, g_fr_E g3 h2, ⟨by omega, by omega, by omega⟩, by rw [h3.1]; exact g7, fun i hi => ?_, by rw [h3.2.2]; exact g9⟩
  rw [h3.1] at hi
  rw [h3.2.1 i]
  exact g8 i hi
theorem g_bd2 (h : s'.2 = s.2) : c_bd s s' 160 1700 := by
  unfold c_bd cq cn
  rw [h]
  omega
theorem g_I_MM (h : g_I R s (n + 1)) (hm : c_MM s s') : g_I R s' n := by
  obtain ⟨k1, k2, k3⟩ := c_ok_MM h.2.1 hm
  exact g_I_s h k1 k2 k3 (g_bd2 hm.1)
theorem g_some {r : nA} {P : Prop} (h : n_some r P) : ∃ x, r = some x := by
  obtain _ | r := r
  · exact h.elim
  · exact ⟨r, rfl⟩
/-- position: the answers are the same -/
theorem g_c177 (h : g_I R s (n + 1)) (K : g_K Z i n) : mm_P Z 300 166 177 (g_L i a b) [] (c_H (g_X R [w]) s) g_Po := by
  refine mm_at_blk nb166_177 (by omega) (Or.inl rfl) ?_
  refine mm_st rfl rfl ?_
  refine g_cv (d := 299) (vs := []) (r := []) h.2.1 nn12 (by simp) nc12 (CG_le (d := 6) (by omega) (cg12 (by omega) h.2.1)) (fun r' s' hp => ?_)
  rw [hp.1, hp.2]
  show mm_wp _ _ _ _ _ _ _ _ _ _ _ _
  refine mm_st rfl rfl ?_
  refine g_nv (d := 299) (vs := []) (r := [vI (Int32.ofInt (s.1 0 6))]) h.2.1 h.2.2.1 nn142 (by simp) nc142 (NG_le (d := 6) (by omega) (nM142 (by omega) h.1)) (fun r' R' hp => ?_)
  have hI := g_I_R h hp.2
  rw [hp.1, ← h.2.2.2.2.2.2]
  show mm_wp _ _ _ _ _ _ _ _ _ _ _ _
  exact ⟨fun _ => K _ _ _ _ _ (g_I_l hI), fun z => absurd rfl z⟩
/-- the reference answers, the answer is dropped -/
theorem g_tail {vs : List nV} {m : Nat} {L : mm_L} (h : g_I R s n) (hn : mm_na m = vs.length + 1) (hl : vs.length + 1 ≤ 12) (hci : mm_ci m = 10) (hG : NG Z 299 m (xR 25 :: vs) R (n_LKP R)) (K : ∀ R', g_I R' s n → mm_P Z 300 166 396 L [] (c_H (g_X R' [w]) s) g_Po) : mm_wp mm_K Z mm_na 6 mm_ci (fun t L st h => mm_P Z 300 166 t L st h g_Po) (mm_C Z 300) g_Po [.invokevirtual m, .pop, .goto 396] L ((vR 25 :: vs.map ng).reverse ++ []) (c_H (g_X R [w]) s) := by
  refine g_nv (d := 299) (vs := vs) (r := []) h.2.1 h.2.2.1 hn (by simpa using hl) hci hG (fun r' R' hp => ?_)
  have hI := g_I_R h hp
  obtain ⟨z, ez⟩ := g_some hp
  rw [ez]
  show mm_wp _ _ _ _ _ _ _ _ _ _ _ _
  refine mm_st rfl rfl ?_
  exact K _ hI
/-- the same, the answer is kept -/
theorem g_tailk {vs : List nV} {m : Nat} {k : Int32} (h : g_I R s n) (hn : mm_na m = vs.length + 1) (hl : vs.length + 1 ≤ 12) (hci : mm_ci m = 10) (hG : NG Z 299 m (xR 25 :: vs) R (n_LKP R)) (K : g_K Z i n) : mm_wp mm_K Z mm_na 6 mm_ci (fun t L st h => mm_P Z 300 166 t L st h g_Po) (mm_C Z 300) g_Po [.invokevirtual m, .istore 6, .goto 396] (g_L i (some (vI k)) b) ((vR 25 :: vs.map ng).reverse ++ []) (c_H (g_X R [w]) s) := by
  refine g_nv (d := 299) (vs := vs) (r := []) h.2.1 h.2.2.1 hn (by simpa using hl) hci hG (fun r' R' hp => ?_)
  have hI := g_I_R h hp
  obtain ⟨z, ez⟩ := g_some hp
  rw [ez]
  show mm_wp _ _ _ _ _ _ _ _ _ _ _ _
  refine mm_st (L' := g_L i (some (vI k)) (some (vI (Int32.ofInt z)))) rfl rfl ?_
  exact K _ _ _ _ _ hI
/-- clear -/
theorem g_c227 (h : g_I R s (n + 1)) (K : g_K Z i n) : mm_P Z 300 166 227 (g_L i a b) [] (c_H (g_X R [w]) s) g_Po := by
  refine mm_at_blk nb166_227 (by omega) (Or.inl rfl) ?_
  refine mm_st rfl rfl ?_
  refine g_cv (d := 299) (vs := []) (r := []) h.2.1 nn17 (by simp) nc17 (CG_le (d := 7) (by omega) (cg17 (d := 6) (by omega) h.2.1)) (fun r' s' hp => ?_)
  obtain ⟨k1, k2, k3⟩ := c_ok_clr h.2.1
  rw [hp.1, hp.2]
  have hI : g_I R (c_uA s 5 1 0) n := g_I_s h k1 k2 k3 (g_bd2 rfl)
  show mm_wp _ _ _ _ _ _ _ _ _ _ _ _
  refine mm_st rfl rfl ?_
  refine g_nv (d := 299) (vs := []) (r := []) hI.2.1 hI.2.2.1 nn146 (by simp) nc146 (NG_le (d := 6) (by omega) (nM146 (by omega) hI.1)) (fun r' R' hp => ?_)
  obtain ⟨e, hp⟩ := hp
  have hI2 : g_I R' (c_uA s 5 1 0) n := g_I_R (r := some 0) hI hp
  rw [e]
  show mm_wp _ _ _ _ _ _ _ _ _ _ _ _
  exact K _ _ _ _ _ hI2
/-- failure, restart, top -/
theorem g_c254 (h : g_I R s (n + 1)) (K : g_K Z i n) : mm_P Z 300 166 254 (g_L i a b) [] (c_H (g_X R [w]) s) g_Po := by
  refine mm_at_blk nb166_254 (by omega) (Or.inl rfl) ?_
  refine mm_st rfl rfl ?_
  refine g_cv (d := 299) (vs := []) (r := []) h.2.1 nn19 (by simp) nc19 (CG_le (d := 6) (by omega) (cg19 (by omega) h.2.1)) (fun r' s' hp => ?_)
  obtain ⟨⟨z, ez⟩, es⟩ := hp
  rw [ez, es]
  show mm_wp _ _ _ _ _ _ _ _ _ _ _ _
  refine mm_st rfl rfl ?_
  refine mm_st rfl rfl ?_
  exact g_tail (vs := []) (g_I_l h) nn155 (by simp) nc155 (NG_le (d := 6) (by omega) (nM155 (by omega) h.1)) (fun R' hI => K _ _ _ _ _ hI)
theorem g_c292 (h : g_I R s (n + 1)) (K : g_K Z i n) : mm_P Z 300 166 292 (g_L i a b) [] (c_H (g_X R [w]) s) g_Po := by
  refine mm_at_blk nb166_292 (by omega) (Or.inl rfl) ?_
  refine mm_st rfl rfl ?_
  refine g_cv (d := 299) (vs := []) (r := []) h.2.1 nn21 (by simp) nc21 (CG_le (d := 7) (by omega) (cg21 (d := 6) (by omega) h.2.1)) (fun r' s' hp => ?_)
  obtain ⟨⟨z, ez⟩, hm⟩ := hp
  have hI := g_I_MM h hm
  rw [ez]
  show mm_wp _ _ _ _ _ _ _ _ _ _ _ _
  refine mm_st rfl rfl ?_
  refine mm_st rfl rfl ?_
  exact g_tail (vs := []) hI nn157 (by simp) nc157 (NG_le (d := 7) (by omega) (nM157 (d := 6) (by omega) hI.1)) (fun R' hI => K _ _ _ _ _ hI)
theorem g_c383 (h : g_I R s (n + 1)) (K : g_K Z i n) : mm_P Z 300 166 383 (g_L i a b) [] (c_H (g_X R [w]) s) g_Po := by
  refine mm_at_blk nb166_383 (by omega) (Or.inl rfl) ?_
  refine mm_st rfl rfl ?_
  refine g_cv (d := 299) (vs := []) (r := []) h.2.1 nn26 (by simp) nc26 (CG_le (d := 7) (by omega) (cg26 (d := 6) (by omega) h.2.1)) (fun r' s' hp => ?_)
  obtain ⟨⟨z, ez⟩, es⟩ := hp
  rw [ez, es]
  show mm_wp _ _ _ _ _ _ _ _ _ _ _ _
  refine mm_st rfl rfl ?_
  refine mm_st rfl rfl ?_
  exact g_tail (vs := []) (g_I_l h) nn165 (by simp) nc165 (NG_le (d := 6) (by omega) (nM165 (by omega) h.1)) (fun R' hI => K _ _ _ _ _ hI)
/-- image, about, stack -/
theorem g_c267 (hz : mm_zald Z 1 (i + Int32.ofInt 1) = some (Int32.ofInt y1)) (r1 : n_rng y1) (h : g_I R s (n + 1)) (K : g_K Z i n) : mm_P Z 300 166 267 (g_L i a b) [] (c_H (g_X R [w]) s) g_Po := by
  refine mm_at_blk nb166_267 (by omega) (Or.inl rfl) ?_
  refine mm_st rfl rfl ?_
  refine mm_st rfl rfl ?_
  refine mm_st rfl rfl ?_
  refine mm_st rfl rfl ?_
  refine mm_st rfl rfl ?_
  refine mm_zi hz ?_
  refine g_cv (d := 299) (vs := [kI y1]) (r := []) h.2.1 nn20 (by simp) nc20 (CG_le (d := 8) (by omega) (cg20 (d := 6) (by omega) h.2.1 r1)) (fun r' s' hp => ?_)
  obtain ⟨⟨z, ez⟩, es⟩ := hp
  rw [ez, es]
  show mm_wp _ _ _ _ _ _ _ _ _ _ _ _
  refine mm_st rfl rfl ?_
  refine mm_st rfl rfl ?_
  refine mm_st rfl rfl ?_
  refine mm_st rfl rfl ?_
  refine mm_st rfl rfl ?_
  refine mm_st rfl rfl ?_
  refine mm_zi hz ?_
  exact g_tail (vs := [xI y1]) (g_I_l h) nn156 (by simp) nc156 (NG_le (d := 6) (by omega) (nM156 (by omega) h.1 r1)) (fun R' hI => K _ _ _ _ _ hI)
theorem g_c333 (hz : mm_zald Z 1 (i + Int32.ofInt 1) = some (Int32.ofInt y1)) (r1 : n_rng y1) (h : g_I R s (n + 1)) (K : g_K Z i n) : mm_P Z 300 166 333 (g_L i a b) [] (c_H (g_X R [w]) s) g_Po := by
  refine mm_at_blk nb166_333 (by omega) (Or.inl rfl) ?_
  refine mm_st rfl rfl ?_
  refine mm_st rfl rfl ?_
  refine mm_st rfl rfl ?_
  refine mm_st rfl rfl ?_
  refine mm_st rfl rfl ?_
  refine mm_zi hz ?_
  refine g_cv (d := 299) (vs := [kI y1]) (r := []) h.2.1 nn23 (by simp) nc23 (CG_le (d := 6) (by omega) (cg23 (by omega) h.2.1 r1)) (fun r' s' hp => ?_)
  obtain ⟨⟨z, ez⟩, es⟩ := hp
  rw [ez, es]
  show mm_wp _ _ _ _ _ _ _ _ _ _ _ _
  refine mm_st rfl rfl ?_
  refine mm_st rfl rfl ?_
  refine mm_st rfl rfl ?_
  refine mm_st rfl rfl ?_
  refine mm_st rfl rfl ?_
  refine mm_st rfl rfl ?_
  refine mm_zi hz ?_
  exact g_tail (vs := [xI y1]) (g_I_l h) nn163 (by simp) nc163 (NG_le (d := 6) (by omega) (nM163 (by omega) h.1 r1)) (fun R' hI => K _ _ _ _ _ hI)
theorem g_c358 (hz : mm_zald Z 1 (i + Int32.ofInt 1) = some (Int32.ofInt y1)) (r1 : n_rng y1) (h : g_I R s (n + 1)) (K : g_K Z i n) : mm_P Z 300 166 358 (g_L i a b) [] (c_H (g_X R [w]) s) g_Po := by
  refine mm_at_blk nb166_358 (by omega) (Or.inl rfl) ?_
  refine mm_st rfl rfl ?_
  refine mm_st rfl rfl ?_
  refine mm_st rfl rfl ?_
  refine mm_st rfl rfl ?_
  refine mm_st rfl rfl ?_
  refine mm_zi hz ?_
  refine g_cv (d := 299) (vs := [kI y1]) (r := []) h.2.1 nn24 (by simp) nc24 (CG_le (d := 7) (by omega) (cg24 (d := 6) (by omega) h.2.1)) (fun r' s' hp => ?_)
  obtain ⟨⟨z, ez⟩, es⟩ := hp
  rw [ez, es]
  show mm_wp _ _ _ _ _ _ _ _ _ _ _ _
  refine mm_st rfl rfl ?_
  refine mm_st rfl rfl ?_
  refine mm_st rfl rfl ?_
  refine mm_st rfl rfl ?_
  refine mm_st rfl rfl ?_
  refine mm_st rfl rfl ?_
  refine mm_zi hz ?_
  exact g_tail (vs := [xI y1]) (g_I_l h) nn164 (by simp) nc164 (NG_le (d := 6) (by omega) (nM164 (by omega) h.1 r1)) (fun R' hI => K _ _ _ _ _ hI)
/-- object -/
theorem g_c190 (hz : mm_zald Z 1 (i + Int32.ofInt 1) = some (Int32.ofInt y1)) (r1 : n_rng y1) (hz2 : mm_zald Z 1 (i + Int32.ofInt 2) = some (Int32.ofInt y2)) (r2 : n_rng y2) (h : g_I R s (n + 1)) (K : g_K Z i n) : mm_P Z 300 166 190 (g_L i a b) [] (c_H (g_X R [w]) s) g_Po := by
  refine mm_at_blk nb166_190 (by omega) (Or.inl rfl) ?_
  refine mm_st rfl rfl ?_
  refine mm_st rfl rfl ?_
  refine mm_st rfl rfl ?_
  refine mm_st rfl rfl ?_
  refine mm_st rfl rfl ?_
  refine mm_zi hz ?_
  refine mm_st rfl rfl ?_
  refine mm_st rfl rfl ?_
  refine mm_st rfl rfl ?_
  refine mm_st rfl rfl ?_
  refine mm_zi hz2 ?_
  refine g_cv (d := 299) (vs := [kI y1, kI y2]) (r := []) h.2.1 nn13 (by simp) nc13 (CG_le (d := 8) (by omega) (cg13 (d := 6) (by omega) h.2.1 r2 r1)) (fun r' s' hp => ?_)
  obtain ⟨⟨z, ez⟩, es⟩ := hp
  rw [ez, es]
  show mm_wp _ _ _ _ _ _ _ _ _ _ _ _
  refine mm_st rfl rfl ?_
  refine mm_st rfl rfl ?_
  refine mm_st rfl rfl ?_
  refine mm_st rfl rfl ?_
  refine mm_st rfl rfl ?_
  refine mm_st rfl rfl ?_
  refine mm_zi hz ?_
  refine mm_st rfl rfl ?_
  refine mm_st rfl rfl ?_
  refine mm_st rfl rfl ?_
  refine mm_st rfl rfl ?_
  refine mm_zi hz2 ?_
  exact g_tail (vs := [xI y1, xI y2]) (g_I_l h) nn143 (by simp) nc143 (NG_le (d := 8) (by omega) (nM143 (d := 6) (by omega) h.1 r1 r2)) (fun R' hI => K _ _ _ _ _ hI)
end G6
