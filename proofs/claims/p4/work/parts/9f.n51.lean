/-! A UNIT IS KEPT: the units then -/
theorem n_cp_ne {A : Nat → Nat → Int} {a base k b i : Nat} {g : Nat → Int} (h : b ≠ a) : n_cp A a base k g b i = A b i := by
  unfold n_cp
  rw [if_neg (fun q => h q.1)]
theorem n_cp_eq {A : Nat → Nat → Int} {a base k i : Nat} {g : Nat → Int} : n_cp A a base k g a i = if base ≤ i ∧ i < base + k then g (i - base) else A a i := by
  unfold n_cp
  by_cases h : base ≤ i ∧ i < base + k
  · rw [if_pos ⟨rfl, h⟩, if_pos h]
  · rw [if_neg (fun q => h q.2), if_neg h]
section N51
variable {s : nS} {w nm n fr : Int} {i a : Nat}
theorem n_kp_2 : (n_kp s w nm n fr).2 = n_cp (n_k5 s w nm n fr) 36 (120 * s.1 2).toNat (if w = 2 then (s.1 1 - fr).toNat else 0) (fun j => n_c (n_k5 s w nm n fr 26 (fr.toNat + j))) := rfl
theorem n_kp_o (h : ¬ (27 ≤ a ∧ a ≤ 37)) : (n_kp s w nm n fr).2 a i = s.2 a i := by
  rw [n_kp_2, n_cp_ne (by omega)]
  unfold n_k5
  rw [n_ua_ne (by omega)]
  unfold n_k4
  rw [n_cp_ne (by omega)]
  unfold n_k3
  rw [n_cp_ne (by omega), n_cp_ne (by omega)]
  unfold n_k2
  rw [n_cp_ne (by omega)]
  unfold n_k1
  rw [n_ua_ne (by omega), n_ua_ne (by omega), n_ua_ne (by omega), n_ua_ne (by omega), n_ua_ne (by omega)]
theorem n_k1_o (h : ¬ (a = 27 ∨ a = 28 ∨ a = 29 ∨ a = 30 ∨ a = 32)) : n_k1 s w nm n a i = s.2 a i := by
  unfold n_k1
  rw [n_ua_ne (by omega), n_ua_ne (by omega), n_ua_ne (by omega), n_ua_ne (by omega), n_ua_ne (by omega)]
theorem n_k2_o (h : a ≠ 31) : n_k2 s w nm n a i = n_k1 s w nm n a i := by
  unfold n_k2
  rw [n_cp_ne h]
theorem n_k3_o (h : a ≠ 33 ∧ a ≠ 34) : n_k3 s w nm n a i = n_k2 s w nm n a i := by
  unfold n_k3
  rw [n_cp_ne h.2, n_cp_ne h.1]
theorem n_k4_o (h : a ≠ 35) : n_k4 s w nm n a i = n_k3 s w nm n a i := by
  unfold n_k4
  rw [n_cp_ne h]
theorem n_k5_o (h : a ≠ 37) : n_k5 s w nm n fr a i = n_k4 s w nm n a i := by
  unfold n_k5
  rw [n_ua_ne h]
theorem n_kp_5 (h : a ≠ 36) : (n_kp s w nm n fr).2 a i = n_k5 s w nm n fr a i := by
  rw [n_kp_2, n_cp_ne h]
theorem n_kp_1 (h : a ≠ 36 ∧ a ≠ 37 ∧ a ≠ 35 ∧ a ≠ 33 ∧ a ≠ 34 ∧ a ≠ 31) : (n_kp s w nm n fr).2 a i = n_k1 s w nm n a i := by
  rw [n_kp_5 h.1, n_k5_o h.2.1, n_k4_o h.2.2.1, n_k3_o ⟨h.2.2.2.1, h.2.2.2.2.1⟩, n_k2_o h.2.2.2.2.2]
theorem n_kp27 : (n_kp s w nm n fr).2 27 i = if i = (s.1 2).toNat then w else s.2 27 i := by
  rw [n_kp_1 (by decide)]
  unfold n_k1
  rw [n_ua_ne (by decide), n_ua_ne (by decide), n_ua_ne (by decide), n_ua_ne (by decide), n_ua_eq]
theorem n_kp28 : (n_kp s w nm n fr).2 28 i = if i = (s.1 2).toNat then nm else s.2 28 i := by
  rw [n_kp_1 (by decide)]
  unfold n_k1
  rw [n_ua_ne (by decide), n_ua_ne (by decide), n_ua_ne (by decide), n_ua_eq, n_ua_ne (by decide)]
theorem n_kp29 : (n_kp s w nm n fr).2 29 i = if i = (s.1 2).toNat then n else s.2 29 i := by
  rw [n_kp_1 (by decide)]
  unfold n_k1
  rw [n_ua_ne (by decide), n_ua_ne (by decide), n_ua_eq, n_ua_ne (by decide), n_ua_ne (by decide)]
theorem n_kp30 : (n_kp s w nm n fr).2 30 i = if i = (s.1 2).toNat then (if w = 2 then 0 else s.1 30) else s.2 30 i := by
  rw [n_kp_1 (by decide)]
  unfold n_k1
  rw [n_ua_ne (by decide), n_ua_eq, n_ua_ne (by decide), n_ua_ne (by decide), n_ua_ne (by decide)]
theorem n_kp32 : (n_kp s w nm n fr).2 32 i = if i = (s.1 2).toNat then (if w = 2 then 0 else s.1 34) else s.2 32 i := by
  rw [n_kp_1 (by decide)]
  unfold n_k1
  rw [n_ua_eq, n_ua_ne (by decide), n_ua_ne (by decide), n_ua_ne (by decide), n_ua_ne (by decide)]
theorem n_kp31 : (n_kp s w nm n fr).2 31 i = if (200 * s.1 2).toNat ≤ i ∧ i < (200 * s.1 2).toNat + (if w = 2 then 0 else s.1 30).toNat then n_b (s.2 47 (i - (200 * s.1 2).toNat)) else s.2 31 i := by
  rw [n_kp_5 (by decide), n_k5_o (by decide), n_k4_o (by decide), n_k3_o (by decide)]
  unfold n_k2
  rw [n_cp_eq, n_k1_o (by decide), n_k1_o (by decide)]
theorem n_kp33 : (n_kp s w nm n fr).2 33 i = if (50 * s.1 2).toNat ≤ i ∧ i < (50 * s.1 2).toNat + (if w = 2 then 0 else s.1 34).toNat then s.2 50 (i - (50 * s.1 2).toNat) else s.2 33 i := by
  rw [n_kp_5 (by decide), n_k5_o (by decide), n_k4_o (by decide)]
  unfold n_k3
  rw [n_cp_ne (by decide), n_cp_eq, n_k2_o (by decide), n_k1_o (by decide), n_k2_o (by decide), n_k1_o (by decide)]
theorem n_kp34 : (n_kp s w nm n fr).2 34 i = if (50 * s.1 2).toNat ≤ i ∧ i < (50 * s.1 2).toNat + (if w = 2 then 0 else s.1 34).toNat then s.2 51 (i - (50 * s.1 2).toNat) else s.2 34 i := by
  rw [n_kp_5 (by decide), n_k5_o (by decide), n_k4_o (by decide)]
  unfold n_k3
  rw [n_cp_eq, n_cp_ne (by decide), n_k2_o (by decide), n_k1_o (by decide), n_k2_o (by decide), n_k1_o (by decide)]
theorem n_kp35 : (n_kp s w nm n fr).2 35 i = if (4 * s.1 2).toNat ≤ i ∧ i < (4 * s.1 2).toNat + (if w = 2 then n.toNat else 0) then s.2 48 (i - (4 * s.1 2).toNat) else s.2 35 i := by
  rw [n_kp_5 (by decide), n_k5_o (by decide)]
  unfold n_k4
  rw [n_cp_eq, n_k3_o (by decide), n_k2_o (by decide), n_k1_o (by decide), n_k3_o (by decide), n_k2_o (by decide), n_k1_o (by decide)]
theorem n_kp37 : (n_kp s w nm n fr).2 37 i = if i = (s.1 2).toNat then s.1 1 - fr else s.2 37 i := by
  rw [n_kp_5 (by decide)]
  unfold n_k5
  rw [n_ua_eq, n_k4_o (by decide), n_k3_o (by decide), n_k2_o (by decide), n_k1_o (by decide)]
theorem n_kp36 : (n_kp s w nm n fr).2 36 i = if (120 * s.1 2).toNat ≤ i ∧ i < (120 * s.1 2).toNat + (if w = 2 then (s.1 1 - fr).toNat else 0) then n_c (s.2 26 (fr.toNat + (i - (120 * s.1 2).toNat))) else s.2 36 i := by
  rw [n_kp_2, n_cp_eq, n_k5_o (by decide), n_k4_o (by decide), n_k3_o (by decide), n_k2_o (by decide), n_k1_o (by decide), n_k5_o (by decide), n_k4_o (by decide), n_k3_o (by decide), n_k2_o (by decide), n_k1_o (by decide)]
/-- the units that were there -/
theorem n_kp_U1 {u : Nat} (h : n_U1 s u) (hu : (u : Int) < s.1 2) (h16 : s.1 2 < 16) : n_U1 (n_kp s w nm n fr) u := by
  obtain ⟨h1, h2, h3, h4⟩ := h
  have e27 : (n_kp s w nm n fr).2 27 u = s.2 27 u := by rw [n_kp27, if_neg (by omega)]
  have e29 : (n_kp s w nm n fr).2 29 u = s.2 29 u := by rw [n_kp29, if_neg (by omega)]
  have e30 : (n_kp s w nm n fr).2 30 u = s.2 30 u := by rw [n_kp30, if_neg (by omega)]
  have e32 : (n_kp s w nm n fr).2 32 u = s.2 32 u := by rw [n_kp32, if_neg (by omega)]
  have e37 : (n_kp s w nm n fr).2 37 u = s.2 37 u := by rw [n_kp37, if_neg (by omega)]
  have e31 : ∀ j, j < 200 → (n_kp s w nm n fr).2 31 (200 * u + j) = s.2 31 (200 * u + j) := fun j hj => by rw [n_kp31, if_neg (by omega)]
  have e33 : ∀ j, j < 50 → (n_kp s w nm n fr).2 33 (50 * u + j) = s.2 33 (50 * u + j) := fun j hj => by rw [n_kp33, if_neg (by omega)]
  refine ⟨by rw [e29]; exact h1, fun h => ?_, fun h => ?_, by rw [e27, e29]; exact h4⟩
  · rw [e27] at h
    obtain ⟨g1, g2, g3⟩ := h2 h
    refine ⟨by rw [e30, e32]; exact g1, by rw [e37]; exact g2, ?_⟩
    unfold n_rdK at *
    rw [n_rp_cg (ch := n_at1 s u) (fun k hk => ?_) 200 0 0 true false (Int.le_refl _)]
    · exact g3
    · rw [n_at1_m (by omega), n_at1_m (by omega), Int.toNat_natCast, e37]
      by_cases hk2 : k < s.2 37 u
      · rw [if_pos hk2, if_pos hk2, n_kp36, if_neg (by omega)]
      · rw [if_neg hk2, if_neg hk2]
  · rw [e27] at h
    obtain ⟨D, z, b1, b2, b3, b4, b5, b6, b7⟩ := h3 h
    refine ⟨D, z, ⟨b1.1, b1.2.1, fun p hp hD => ?_⟩, fun j hj => ?_, by rw [e29]; exact b3, by rw [e29]; exact b4, ?_, by rw [e30]; exact b6, by rw [e32]; exact b7⟩
    · refine n_cv_app (b1.2.2 p hp hD) (Nat.le_refl _) (fun j hj => e31 j (by omega)) (fun _ _ => rfl) (fun _ h => h) (fun q hq => ?_)
      obtain ⟨j, j1, j2⟩ := hq
      refine ⟨j, by rw [e32]; exact j1, ?_⟩
      rw [e33 j (by omega)]
      exact j2
    · rw [e32] at hj
      obtain ⟨p, p1, p2, p3, p4⟩ := b2 j hj
      exact ⟨p, by rw [e33 j (by omega)]; exact p1, p2, p3, by rw [e31 p (by omega)]; exact p4⟩
    · rw [e27, e30, e31 z (by omega)]
      exact b5
/-- the new unit: code -/
theorem n_kp_new {e : Int} (h0 : 0 ≤ s.1 2) (hw : (w = 0 ∧ e = 14 ∧ n = 0) ∨ (w = 1 ∧ e = 13)) (hn : 0 ≤ n ∧ n ≤ 4) (hR : n_BR n e s) : n_U1 (n_kp s w nm n fr) (s.1 2).toNat := by
  obtain ⟨D, z, b1, b2, b3, b4, b5, b6, b7⟩ := hR
  have hw2 : ¬ w = 2 := by omega
  generalize hu : (s.1 2).toNat = u
  have e27 : (n_kp s w nm n fr).2 27 u = w := by rw [n_kp27, if_pos hu.symm]
  have e29 : (n_kp s w nm n fr).2 29 u = n := by rw [n_kp29, if_pos hu.symm]
  have e30 : (n_kp s w nm n fr).2 30 u = s.1 30 := by rw [n_kp30, if_pos hu.symm, if_neg hw2]
  have e32 : (n_kp s w nm n fr).2 32 u = s.1 34 := by rw [n_kp32, if_pos hu.symm, if_neg hw2]
  have e31 : ∀ j : Nat, (j : Int) < s.1 30 → (n_kp s w nm n fr).2 31 (200 * u + j) = n_b (s.2 47 j) := fun j hj => by
    rw [n_kp31, if_neg hw2, if_pos (by omega), show 200 * u + j - (200 * s.1 2).toNat = j from by omega]
  have e33 : ∀ j : Nat, (j : Int) < s.1 34 → (n_kp s w nm n fr).2 33 (50 * u + j) = s.2 50 j := fun j hj => by
    rw [n_kp33, if_neg hw2, if_pos (by omega), show 50 * u + j - (50 * s.1 2).toNat = j from by omega]
  have hz : (z : Int) < s.1 30 := by omega
  refine ⟨by rw [e29]; exact hn, fun h => absurd (e27.symm.trans h) hw2, fun _ => ⟨D, z, ⟨b1.1, b1.2.1, fun p hp hD => ?_⟩, fun j hj => ?_, by rw [e29]; exact b3, by rw [e29]; exact b4, ?_, by rw [e30]; exact b6, ?_⟩, fun h => ?_⟩
  · refine n_cv_b (b1.2.2 p hp hD) (fun j hj => e31 j (by omega)) (fun q hq => ?_)
    obtain ⟨j, j1, j2⟩ := hq
    exact ⟨j, by rw [e32]; exact j1, by rw [e33 j j1]; exact j2⟩
  · rw [e32] at hj
    obtain ⟨n1, p, n2, n3, n4, n5⟩ := b2.2 j hj
    exact ⟨p, by rw [e33 j hj]; exact n2, n3, n4, by rw [e31 p (by omega), n5]; decide⟩
  · rw [e27, e30, e31 z hz, b5]
    rcases b7 with b7 | b7
    · left
      exact ⟨by omega, by rw [b7.1]; decide, b7.2⟩
    · right
      exact ⟨by omega, by rw [b7.1]; decide, b7.2⟩
  · rw [e32]
    have := b2.1
    omega
  · rw [e27] at h
    rw [e29]
    omega
/-- the new unit: a macro -/
theorem n_kp_mac (h0 : 0 ≤ s.1 2) (hT : n_TT s) (hn : 0 ≤ n ∧ n ≤ 4) (hr : n_read s (-1) = -1) (hfr : fr = n_4th (s.2 26) (s.1 1).toNat 0 0 0 false) : (0 ≤ fr ∧ fr ≤ s.1 1) ∧ n_U1 (n_kp s 2 nm n fr) (s.1 2).toNat := by
  obtain ⟨a1, a2, a3, a4⟩ := hT
  have ech : ∀ k, n_at1 s (-1) k = if k < s.1 1 then s.2 26 k.toNat else 0 := fun k => by
    unfold n_at1
    rw [if_pos (by decide)]
  generalize hu : (s.1 2).toNat = u
  have e27 : (n_kp s 2 nm n fr).2 27 u = 2 := by rw [n_kp27, if_pos hu.symm]
  have e29 : (n_kp s 2 nm n fr).2 29 u = n := by rw [n_kp29, if_pos hu.symm]
  have e30 : (n_kp s 2 nm n fr).2 30 u = 0 := by rw [n_kp30, if_pos hu.symm, if_pos rfl]
  have e32 : (n_kp s 2 nm n fr).2 32 u = 0 := by rw [n_kp32, if_pos hu.symm, if_pos rfl]
  have e37 : (n_kp s 2 nm n fr).2 37 u = s.1 1 - fr := by rw [n_kp37, if_pos hu.symm]
  have hrd : n_rp (n_at1 s (-1)) false 200 0 0 true false = -1 := hr
  have hfr0 : 0 ≤ fr := by
    have := n_kept_rd (ch := n_at1 s (-1)) (ch' := fun k => n_at1 s (-1) (fr + k)) a1.1 (fun k hk => by rw [ech, if_neg (by omega)]) (fun k k1 k2 => by rw [ech, if_pos k2]; have := a3 k.toNat (by omega); exact ⟨rfl, by omega⟩) hrd hfr (fun _ _ => rfl)
    exact this.1.1
  have hmain := n_kept_rd (ch := n_at1 s (-1)) (ch' := n_at1 (n_kp s 2 nm n fr) u) a1.1 (fun k hk => by rw [ech, if_neg (by omega)]) (fun k k1 k2 => by rw [ech, if_pos k2]; have := a3 k.toNat (by omega); exact ⟨rfl, by omega⟩) hrd hfr (fun k hk => by
    rw [n_at1_m (by omega), Int.toNat_natCast, e37, ech]
    by_cases hk2 : k < s.1 1 - fr
    · rw [if_pos hk2, if_pos (by omega), n_kp36, if_pos (by rw [if_pos rfl]; omega), show fr.toNat + ((120 * (u : Int) + k).toNat - (120 * s.1 2).toNat) = (fr + k).toNat from by omega]
      have hb := a2 (fr + k).toNat
      have := n_c_id (s.2 26 (fr + k).toNat).toNat (by omega)
      rw [show (((s.2 26 (fr + k).toNat).toNat : Nat) : Int) = s.2 26 (fr + k).toNat from by omega] at this
      exact this
    · rw [if_neg hk2, if_neg (by omega)])
  refine ⟨hmain.1, by rw [e29]; exact hn, fun _ => ⟨⟨e30, e32⟩, by rw [e37]; omega, hmain.2⟩, fun h => absurd e27 h, fun h => ?_⟩
  rw [e27] at h
  exact absurd h (by decide)
/-- the units, one more -/
theorem n_kp_UI (hU : n_UI s) (h16 : s.1 2 < 16) (hw : w = 0 ∨ w = 1 ∨ w = 2) (hnm : n_rng nm) (hn : 0 ≤ n ∧ n ≤ 4) (h51 : ¬ w = 2 → ∀ j : Nat, (j : Int) < s.1 34 → n_rng (s.2 51 j)) (h48 : w = 2 → ∀ j : Nat, (j : Int) < n → n_rng (s.2 48 j)) (h34 : ¬ w = 2 → 0 ≤ s.1 34) (hnew : n_U1 (n_kp s w nm n fr) (s.1 2).toNat) : n_UI (n_kp s w nm n fr) := by
  obtain ⟨u1, u2, u3⟩ := hU
  have e2 : (n_kp s w nm n fr).1 2 = s.1 2 + 1 := rfl
  refine ⟨by rw [e2]; omega, fun i => ?_, fun u hu => ?_⟩
  · obtain ⟨⟨r1, r2⟩, r3, r4, r5⟩ := u2 i
    refine ⟨⟨?_, ?_⟩, ?_, ?_, ?_⟩
    · rw [n_kp27]; split
      · exact ⟨by omega, by omega⟩
      · exact r1
    · rw [n_kp28]; split
      · exact hnm
      · exact r2
    · rw [n_kp29]; split
      · exact ⟨by omega, by omega⟩
      · exact r3
    · rw [n_kp34]
      by_cases h2 : w = 2
      · rw [if_pos h2, if_neg (by simp)]
        exact r4
      · rw [if_neg h2]
        split
        · have := h34 h2
          exact h51 h2 _ (by omega)
        · exact r4
    · rw [n_kp35]
      by_cases h2 : w = 2
      · rw [if_pos h2]
        split
        · exact h48 h2 _ (by omega)
        · exact r5
      · rw [if_neg h2, if_neg (by omega)]
        exact r5
  · rw [e2] at hu
    by_cases hu2 : (u : Int) < s.1 2
    · exact n_kp_U1 (u3 u hu2) hu2 h16
    · rw [show u = (s.1 2).toNat from by omega]
      exact hnew
end N51
