/-! THE LAW'S CASES, on -/
section G7
variable {Z : Nat → List Int32} {d n m : Nat} {s s' : cS} {R R' : nS} {w x : Int64} {i : Int32} {a b : Option mm_V} {y1 y2 : Int}
/-- the word of two numbers of the script -/
def g_word (a b : Int32) : Int64 := (a.toInt64 <<< ((Int32.ofInt 32).toInt64 &&& 63)) ||| (b.toInt64 &&& Int64.ofInt 4294967295)
/-- what a write leaves of both -/
theorem g_I_w {wd : Int64} {r : cA} {r2 : nA} (h : g_I R s (n + 1)) (hp : c_WO s wd r s') (hr : n_WO R wd r2 R') : g_I R' s' n := by
  obtain ⟨h1, h2, h3, ⟨h4, h5, h6⟩, h7, h8, h9⟩ := h
  obtain ⟨e1, hm, e2, e3⟩ := hp
  obtain ⟨p1, p2, p3, p4, p5⟩ := hr
  have hB : c_By s 1 2 := c_ok_By h2 (p := (1, 0, 2)) (by decide) rfl (by decide)
  obtain ⟨k1, k2⟩ := c_ok_BM h2 hB hm
  have eq : cq s' = cq s := by unfold cq; rw [hm.1]
  have en : cn s' = cn s := by unfold cn; rw [hm.1]
  refine ⟨p1, k1, g_fr_E h3 k2, ⟨by rw [eq]; omega, by rw [eq]; omega, by rw [eq, en]; exact h6⟩, ?_, fun i hi => ?_, ?_⟩
  · rw [e2, p3, h7]
  · rw [e3 (R.2 26) (fun i hi => ⟨h8 i hi, h1.1.2.2.1 i (by rw [← h7]; exact hi)⟩) i hi, p5, h7]
  · rw [hm.2.1 0 6 (by decide) (by decide), p4]
    exact h9
theorem g_c104 (hz : mm_zald Z 1 (i + Int32.ofInt 1) = some (Int32.ofInt y1)) (hz2 : mm_zald Z 1 (i + Int32.ofInt 2) = some (Int32.ofInt y2)) (h : g_I R s (n + 1)) (K : g_K Z i n) : mm_P Z 300 166 104 (g_L i a b) [] (c_H (g_X R [w]) s) g_Po := by
  refine mm_at_blk nb166_104 (by omega) (Or.inl rfl) ?_
  refine mm_st rfl rfl ?_
  refine mm_st rfl rfl ?_
  refine mm_st rfl rfl ?_
  refine mm_st rfl rfl ?_
  refine mm_st rfl rfl ?_
  refine mm_zi hz ?_
  refine mm_st rfl rfl ?_
  refine mm_st rfl rfl ?_
  refine mm_st rfl rfl ?_
  refine mm_st rfl rfl ?_
  refine mm_st rfl rfl ?_
  refine mm_st rfl rfl ?_
  refine mm_st rfl rfl ?_
  refine mm_zi hz2 ?_
  refine mm_st rfl rfl ?_
  refine mm_st rfl rfl ?_
  refine mm_st rfl rfl ?_
  refine mm_st (st' := [vJ (g_word (Int32.ofInt y1) (Int32.ofInt y2)), vR 0]) rfl rfl ?_
  generalize hw : g_word (Int32.ofInt y1) (Int32.ofInt y2) = wd
  refine g_cv (d := 299) (vs := [kJ wd]) (r := []) h.2.1 nn8 (by simp) nc8 (CG_le (d := 7) (by omega) (cg8 (d := 6) (by omega) h.2.1)) (fun r' s' hp => ?_)
  have hB : c_By s 1 2 := c_ok_By h.2.1 (p := (1, 0, 2)) (by decide) rfl (by decide)
  obtain ⟨k1, k2⟩ := c_ok_BM h.2.1 hB hp.2.1
  rw [hp.1]
  show mm_wp _ _ _ _ _ _ _ _ _ _ _ _
  refine mm_st rfl rfl ?_
  refine mm_st rfl rfl ?_
  refine mm_st rfl rfl ?_
  refine mm_st rfl rfl ?_
  refine mm_st rfl rfl ?_
  refine mm_st rfl rfl ?_
  refine mm_zi hz ?_
  refine mm_st rfl rfl ?_
  refine mm_st rfl rfl ?_
  refine mm_st rfl rfl ?_
  refine mm_st rfl rfl ?_
  refine mm_st rfl rfl ?_
  refine mm_st rfl rfl ?_
  refine mm_st rfl rfl ?_
  refine mm_zi hz2 ?_
  refine mm_st rfl rfl ?_
  refine mm_st rfl rfl ?_
  refine mm_st rfl rfl ?_
  refine mm_st (st' := [vJ wd, vR 25]) rfl (by rw [← hw]; rfl) ?_
  refine g_nv (d := 299) (vs := [xJ wd]) (r := []) k1 (g_fr_E h.2.2.1 k2) nn109 (by simp) nc109 (NG_le (d := 6) (by omega) (nM109 (by omega) h.1)) (fun r2 R' hp2 => ?_)
  have hI := g_I_w h hp hp2
  rw [hp2.2.1]
  show mm_wp _ _ _ _ _ _ _ _ _ _ _ _
  refine mm_st rfl rfl ?_
  exact K _ _ _ _ _ hI
/-- compile -/
theorem g_c161 (h : g_I R s (n + 1)) (K : g_K Z i n) : mm_P Z 300 166 161 (g_L i a b) [] (c_H (g_X R [w]) s) g_Po := by
  obtain ⟨q1, q2, q3⟩ := h.2.2.2.1
  have h7 := h.2.2.2.2.1
  have h8 := h.2.2.2.2.2.1
  have hT := h.1.1
  have hch : ∀ i : Int, 0 ≤ i → i < s.1 1 1 → s.1 2 i.toNat = n_at1 R (-1) i ∧ 0 < n_at1 R (-1) i ∧ n_at1 R (-1) i < 256 := by
    intro i hi hl
    have e : n_at1 R (-1) i = R.2 26 i.toNat := by
      unfold n_at1
      rw [if_pos (by decide), if_pos (by omega)]
    have h1 := hT.2.1 i.toNat
    have h2 := hT.2.2.1 i.toNat (by omega)
    rw [e]
    exact ⟨h8 i.toNat (by omega), by omega, by omega⟩
  have hce : ∀ i : Int, s.1 1 1 ≤ i → n_at1 R (-1) i = 0 := by
    intro i hi
    unfold n_at1
    rw [if_pos (by decide), if_neg (by omega)]
  refine mm_at_blk nb166_161 (by omega) (Or.inl rfl) ?_
  refine mm_st rfl rfl ?_
  refine mm_st rfl rfl ?_
  show mm_na 167 ≤ _ ∧ _ ∧ _
  rw [nn167]
  refine ⟨Nat.le_refl 2, by decide, ?_⟩
  refine mm_G_mono (mm_G_le (d := 213) (d' := 299) (by omega) (g_G167 (d := 212) (by omega) h.2.1 (cx27 (d := 6) (ch := n_at1 R (-1)) (W := n_read R (-1)) (by omega) h.2.1 ⟨by omega, by omega, q3⟩ hch hce n_read_m) (fun r s' hp => ⟨hp.1, g_fr_E h.2.2.1 hp.2.2.1⟩))) (fun r hh hr => ?_)
  obtain ⟨⟨k, ek⟩, r', s', w', hp, eh⟩ := hr
  rw [ek, eh]
  have hpos := c_CMP_p hp
  obtain ⟨-, k1, k2, k3, k4, -⟩ := hp
  show mm_wp _ _ _ _ _ _ _ _ _ _ _ _
  refine mm_st (L' := g_L i (some (vI k)) b) rfl rfl ?_
  refine mm_st rfl rfl ?_
  refine g_nv (d := 299) (vs := []) (r := []) k1 (g_fr_E h.2.2.1 k2) nn110 (by simp) nc110 (NG_le (d := 13) (by omega) (nM110 (d := 6) (by omega) h.1)) (fun r2 R' hp2 => ?_)
  obtain ⟨z, ez⟩ := g_some hp2
  rw [ez] at hp2
  obtain ⟨g1, g2, g3⟩ := hp2
  rw [ez]
  show mm_wp _ _ _ _ _ _ _ _ _ _ _ _
  refine mm_st (L' := g_L i (some (vI k)) (some (vI (Int32.ofInt z)))) rfl rfl ?_
  unfold c_bd at k4
  exact K _ _ _ _ _ ⟨g1, k1, g_fr_E h.2.2.1 k2, ⟨by omega, by omega, by omega⟩, by rw [k3, g2], fun i hi => by rw [k3] at hi; omega, by rw [hpos, g3]⟩
/-- link -/
theorem g_c238 (hZ : c_Z0 Z) (h : g_I R s (n + 1)) (K : g_K Z i n) : mm_P Z 300 166 238 (g_L i a b) [] (c_H (g_X R [w]) s) g_Po := by
  obtain ⟨q1, q2, q3⟩ := h.2.2.2.1
  refine mm_at_blk nb166_238 (by omega) (Or.inl rfl) ?_
  refine mm_st rfl rfl ?_
  refine mm_st rfl rfl ?_
  show mm_na 168 ≤ _ ∧ _ ∧ _
  rw [nn168]
  refine ⟨Nat.le_refl 2, by decide, ?_⟩
  refine mm_G_mono (mm_G_le (d := 10) (d' := 299) (by omega) (g_G168 (d := 9) (by omega) h.2.1 (cg87 (d := 6) (by omega) hZ h.2.1 ⟨by omega, by omega⟩) (fun r s' hp => ⟨hp.1, g_fr_E h.2.2.1 hp.2.2.1⟩))) (fun r hh hr => ?_)
  obtain ⟨⟨k, ek⟩, r', s', w', hp, eh⟩ := hr
  rw [ek, eh]
  have hI : g_I R s' n := g_I_s h hp.2.1 hp.2.2.1 hp.2.2.2.1 (c_RP_le hp.2 (by omega) (by omega)).2.2.2
  show mm_wp _ _ _ _ _ _ _ _ _ _ _ _
  refine mm_st (L' := g_L i (some (vI k)) b) rfl rfl ?_
  refine mm_st rfl rfl ?_
  exact g_tailk (vs := []) hI nn147 (by simp) nc147 (NG_le (d := 8) (by omega) (nM147 (d := 6) (by omega) hI.1)) K
/-- run -/
theorem g_c305 (hz : mm_zald Z 1 (i + Int32.ofInt 1) = some (Int32.ofInt y1)) (r1 : n_rng y1) (h : g_I R s (n + 1)) (K : g_K Z i n) : mm_P Z 300 166 305 (g_L i a b) [] (c_H (g_X R [w]) s) g_Po := by
  obtain ⟨q1, q2, q3⟩ := h.2.2.2.1
  refine mm_at_blk nb166_305 (by omega) (Or.inl rfl) ?_
  refine mm_st rfl rfl ?_
  refine mm_st rfl rfl ?_
  refine mm_st rfl rfl ?_
  refine mm_st rfl rfl ?_
  refine mm_st rfl rfl ?_
  refine mm_zi hz ?_
  refine mm_st rfl rfl ?_
  show mm_na 169 ≤ _ ∧ _ ∧ _
  rw [nn169]
  refine ⟨Nat.le_refl 3, Nat.le_of_ble_eq_true rfl, ?_⟩
  have hE : ∀ (r : cA) (s' : cS), ((r = .inr 0 ∧ s' = c_q s 1 6) ∨ ((∃ x, r = .inl (some (kI x))) ∧ c_MM s s')) → ((∃ v, r = .inl (some (kI v))) ∨ r = .inr 0) ∧ g_I R s' n := by
    intro r s' hp
    rcases hp with ⟨e1, e2⟩ | ⟨e1, hm⟩
    · obtain ⟨k1, k2, k3⟩ := c_ok_q h.2.1 (x := 1) (y := 6)
      rw [e2]
      exact ⟨Or.inr e1, g_I_s h k1 k2 k3 (c_RP_le (c_RP_q h.2.1) (by omega) (by omega)).2.2.2⟩
    · exact ⟨Or.inl e1, g_I_MM h hm⟩
  refine mm_G_mono (mm_G_le (d := 12) (d' := 299) (by omega) (g_G169 (y0 := y1) (d := 11) (by omega) h.2.1 (cg97 (d := 6) (by omega) h.2.1 r1 ⟨by omega, by omega⟩) (fun r s' hp => ⟨(hE r s' hp).1, (hE r s' hp).2.2.2.1⟩))) (fun r hh hr => ?_)
  obtain ⟨⟨k, ek⟩, r', s', w', hp, eh⟩ := hr
  rw [ek, eh]
  have hI := (hE r' s' hp).2
  show mm_wp _ _ _ _ _ _ _ _ _ _ _ _
  refine mm_st (L' := g_L i (some (vI k)) b) rfl rfl ?_
  refine mm_st rfl rfl ?_
  refine mm_st rfl rfl ?_
  refine mm_st rfl rfl ?_
  refine mm_st rfl rfl ?_
  refine mm_st rfl rfl ?_
  refine mm_zi hz ?_
  exact g_tailk (vs := [xI y1]) hI nn158 (by simp) nc158 (NG_le (d := 8) (by omega) (nM158 (d := 6) (by omega) hI.1 r1)) K
theorem g_402 {L : mm_L} {h : mm_H} : mm_P Z 300 166 402 L [] h g_Po := by
  refine mm_at_blk nb166_402 (by omega) (Or.inl rfl) ?_
  simp [mm_wp, mm_s1]
/-- the loop -/
theorem g_loop (hZ : c_Z0 Z) (hl : (Z 1).length ≤ 1536) : ∀ (m : Nat) (R : nS) (s : cS) (w : Int64) (a b : Option mm_V) (I : Int), g_I R s m → 0 ≤ I → I + 3 * m ≤ 1540 → ((Z 1).length : Int) ≤ I + 3 * m + 2 → mm_P Z 300 166 23 (g_L (Int32.ofInt I) a b) [] (c_H (g_X R [w]) s) g_Po := by
  intro m
  induction m with
  | zero =>
    intro R s w a b I hI h0 h1 h2
    have s3 : mm_s1 mm_K Z .arraylength (g_L (Int32.ofInt I) a b) [vZ 1, vI (Int32.ofInt I)] (c_H (g_X R [w]) s) = some (g_L (Int32.ofInt I) a b, [vI (Int32.ofNat (Z 1).length), vI (Int32.ofInt I)], c_H (g_X R [w]) s) := by simp [mm_s1]
    have ey : Int32.ofNat (Z 1).length - Int32.ofInt 3 = Int32.ofInt (((Z 1).length : Int) - 3) := by rw [Int32.ofInt_sub]; rfl
    refine mm_at_blk nb166_23 (by omega) (Or.inl rfl) ?_
    refine mm_st rfl rfl ?_
    refine mm_st rfl rfl ?_
    refine mm_st rfl s3 ?_
    refine mm_st rfl rfl ?_
    refine mm_st rfl rfl ?_
    refine ⟨fun _ => g_402, fun z => absurd ?_ z⟩
    rw [ey]
    exact (n_cmp_iff ⟨by omega, by omega⟩ ⟨by omega, by omega⟩).mpr (show ((Z 1).length : Int) - 3 < I by omega)
  | succ m ih =>
    intro R s w a b I hI h0 h1 h2
    have s3 : mm_s1 mm_K Z .arraylength (g_L (Int32.ofInt I) a b) [vZ 1, vI (Int32.ofInt I)] (c_H (g_X R [w]) s) = some (g_L (Int32.ofInt I) a b, [vI (Int32.ofNat (Z 1).length), vI (Int32.ofInt I)], c_H (g_X R [w]) s) := by simp [mm_s1]
    have ey : Int32.ofNat (Z 1).length - Int32.ofInt 3 = Int32.ofInt (((Z 1).length : Int) - 3) := by rw [Int32.ofInt_sub]; rfl
    refine mm_at_blk nb166_23 (by omega) (Or.inl rfl) ?_
    refine mm_st rfl rfl ?_
    refine mm_st rfl rfl ?_
    refine mm_st rfl s3 ?_
    refine mm_st rfl rfl ?_
    refine mm_st rfl rfl ?_
    refine ⟨fun _ => g_402, fun z => ?_⟩
    have hlt : ¬ ((Z 1).length : Int) - 3 < I := fun q => z (by
      rw [ey]
      exact (n_cmp_iff ⟨by omega, by omega⟩ ⟨by omega, by omega⟩).mpr q)
    have hz0 : ∀ j : Int, 0 ≤ j ∧ j ≤ 2 → ∃ y, n_rng y ∧ mm_zald Z 1 (Int32.ofInt (I + j)) = some (Int32.ofInt y) := fun j hj => ⟨_, n_rng_toInt _, c_zald ⟨by omega, by omega, by omega⟩⟩
    obtain ⟨y0, -, z0⟩ := hz0 0 (by omega)
    obtain ⟨y1, r1, z1⟩ := hz0 1 (by omega)
    obtain ⟨y2, r2, z2⟩ := hz0 2 (by omega)
    rw [Int.add_zero] at z0
    rw [Int32.ofInt_add] at z1 z2
    have K : g_K Z (Int32.ofInt I) m := by
      intro R s w a b hI
      refine mm_at_blk nb166_396 (by omega) (Or.inl rfl) ?_
      refine mm_st (L' := g_L (Int32.ofInt (I + 3)) a b) rfl (by rw [Int32.ofInt_add]; rfl) ?_
      exact ih R s w a b (I + 3) hI (by omega) (by omega) (by omega)
    refine mm_st rfl rfl ?_
    refine mm_st rfl rfl ?_
    refine mm_zi z0 ?_
    refine mm_st rfl rfl ?_
    refine mm_st rfl rfl ?_
    simp only [mm_wp, mm_sw]
    exact ⟨fun _ => g_c104 z1 z2 hI K, fun _ => ⟨fun _ => g_c161 hI K, fun _ => ⟨fun _ => g_c177 hI K, fun _ => ⟨fun _ => g_c190 z1 r1 z2 r2 hI K, fun _ => ⟨fun _ => g_c227 hI K, fun _ => ⟨fun _ => g_c238 hZ hI K, fun _ => ⟨fun _ => g_c254 hI K, fun _ => ⟨fun _ => g_c267 z1 r1 hI K, fun _ => ⟨fun _ => g_c292 hI K, fun _ => ⟨fun _ => g_c305 z1 r1 hI K, fun _ => ⟨fun _ => g_c333 z1 r1 hI K, fun _ => ⟨fun _ => g_c358 z1 r1 hI K, fun _ => ⟨fun _ => g_c383 hI K, fun _ => K _ _ _ _ _ (g_I_l hI)⟩⟩⟩⟩⟩⟩⟩⟩⟩⟩⟩⟩⟩
theorem g_I0 : g_I g_R0 g_s0 512 := by
  have hq := g_q
  simp only [Bool.and_eq_true, decide_eq_true_eq] at hq
  have eq : cq g_s0 = p1_h.2 := g_cq
  have en : cn g_s0 = 59 := rfl
  refine ⟨n_MI_0 (fun k hk => ?_) (fun _ _ => rfl), g_ok0, g_fr0, ⟨by rw [eq]; omega, by rw [eq]; omega, by rw [eq, en]; omega⟩, rfl, fun i hi => ?_, rfl⟩
  · show (if k = 3 then (-1 : Int) else 0) = 0
    rw [if_neg hk]
  · have hi : (i : Int) < 0 := hi
    omega
theorem g_law (hZ : c_Z0 Z) (hl : (Z 1).length ≤ 1536) : mm_G Z 1300 166 [vZ 1] ([], (601024, 7293034)) g_Po := by
  refine mm_G_le (d := 300) (by omega) (mm_G_of (by rw [nl166]; decide) ?_)
  have hr := g_made
  unfold p1_r at hr
  obtain ⟨is, hb, hl2⟩ := Option.bind_eq_some_iff.mp hr
  rw [nl166]
  refine mm_at_blk hb (by omega) (Or.inl rfl) (mm_lin_wp (D := 300) rfl ?_ is _ _ _ hl2)
  rw [g_h]
  exact g_loop hZ hl 512 g_R0 g_s0 0 none none 0 g_I0 (by omega) (by omega) (by omega)
end G7
