/-! EVERY CALL ON THE REFERENCE -/
section N62
variable {Z : Nat → List Int32} {d : Nat} {s t : nS}
theorem n_wr_b {w : Int64} : ∀ (k : Nat) (n : Int) (g : Bool) (T : Nat → Int), (0 ≤ n ∧ n ≤ 120) → (∀ i : Nat, (i : Int) < n → 31 < T i) → (n ≤ (n_wr w k n g).1 ∧ (n_wr w k n g).1 ≤ 120) ∧ (∀ i : Nat, (i : Int) < (n_wr w k n g).1 → 31 < n_wrA w k n g T i) ∧ (∀ i : Nat, (i : Int) < n → n_wrA w k n g T i = T i)
  | 0, n, g, T, hn, hT => ⟨⟨Int.le_refl _, hn.2⟩, hT, fun _ _ => rfl⟩
  | k + 1, n, g, T, hn, hT => by
    rw [n_wr, n_wrA]
    by_cases hc : (g && (decide (n_wch w k = 0) || decide (31 < n_wch w k ∧ n_wch w k < 127 ∧ n < 120))) = true ∧ ¬ n_wch w k = 0
    · rw [if_pos hc, if_pos hc]
      have hl : 31 < n_wch w k ∧ n_wch w k < 127 ∧ n < 120 := by
        have := hc.1
        simp only [Bool.and_eq_true, Bool.or_eq_true, decide_eq_true_eq] at this
        exact this.2.resolve_left hc.2
      obtain ⟨h1, h2, h3⟩ := n_wr_b (w := w) k (n + 1) (g && (decide (n_wch w k = 0) || decide (31 < n_wch w k ∧ n_wch w k < 127 ∧ n < 120))) (fun j => if j = n.toNat then n_wch w k else T j) ⟨by omega, by omega⟩ (fun i hi => by
        by_cases hin : i = n.toNat
        · rw [if_pos hin]; exact hl.1
        · rw [if_neg hin]; exact hT i (by omega))
      refine ⟨⟨by omega, h1.2⟩, h2, fun i hi => ?_⟩
      rw [h3 i (by omega), if_neg (by omega)]
    · rw [if_neg hc, if_neg hc]
      exact n_wr_b k n _ T hn hT
/-- what a write leaves -/
def n_WO (s : nS) (w : Int64) (r : nA) (s' : nS) : Prop := n_MI s' ∧ r = some (n_T (n_wr w 8 (s.1 1) true).2) ∧ s'.1 1 = (if (n_wr w 8 (s.1 1) true).2 = true then (n_wr w 8 (s.1 1) true).1 else s.1 1) ∧ s'.1 3 = s.1 3 ∧ s'.2 26 = n_wrA w 8 (s.1 1) true (s.2 26)
theorem nM109 {w : Int64} (hd : 6 ≤ d) (hM : n_MI s) : NG Z d 109 [xR 25, xJ w] s (n_WO s w) := by
  obtain ⟨⟨a1, a2, a3, a4⟩, hU, hX⟩ := hM
  refine NG_mono (ng109 hd a1 a2) (fun r s' hr => ?_)
  obtain ⟨h1, h2, h3, h4, h5⟩ := hr
  obtain ⟨b1, b2, b3⟩ := n_wr_b (w := w) 8 (s.1 1) true (s.2 26) a1 a3
  have e1 : s'.1 1 = (if (n_wr w 8 (s.1 1) true).2 = true then (n_wr w 8 (s.1 1) true).1 else s.1 1) := by rw [h2]; rfl
  have ef : ∀ k, ¬ (k = 0 ∨ k = 1) → s'.1 k = s.1 k := fun k hk => by rw [h2, n_u_ne (by omega), n_u_ne (by omega)]
  refine ⟨⟨⟨?_, h4, fun i hi => ?_, fun i => by rw [h3 36 i (by decide)]; exact a4 i⟩, n_UI_fr hU (ef 2 (by decide)) (fun a i ha => h3 a i (by omega)), n_XI_fr hX (fun k hk => ef k (by omega)) (fun a i ha => h3 a i (by omega)) (fun i => by rw [h3 52 i (by decide)]; exact hX.1 i)⟩, h1, e1, ef 3 (by decide), h5⟩
  · rw [e1]
    split
    · omega
    · exact a1
  · rw [e1] at hi
    rw [h5]
    split at hi
    · exact b2 i hi
    · rw [b3 i hi]
      exact a3 i hi
theorem n_MI_fr (hM : n_MI s) (ef : ∀ k, ¬ k = 0 → t.1 k = s.1 k) (ea : t.2 = s.2) : n_MI t ∧ n_TP s t := by
  have hc : n_lk s t := ⟨fun k hk => ef k (by omega), fun a i _ => by rw [ea]⟩
  exact ⟨n_MI_lk hM hc (fun i => by rw [ea]; exact hM.2.2.1 i), n_TP_lk hc⟩
theorem n_0 (hM : n_MI s) {s' : nS} (h : s' = (n_upd s.1 0 0, s.2)) : n_MI s' ∧ n_TP s s' := by
  rw [h]
  exact n_MI_fr hM (fun k hk => n_u_ne hk) rfl
theorem n_0s (hM : n_MI s) {r : nA} {s' : nS} (h : n_some r (s' = (n_upd s.1 0 0, s.2))) : n_LKP s r s' := by
  cases r with
  | none => exact h
  | some x => exact n_0 hM h
theorem nM142 (hd : 6 ≤ d) (hM : n_MI s) : NG Z d 142 [xR 25] s (fun r s' => r = some (s.1 3) ∧ n_LKP s r s') := NG_mono (ng142 hd) (fun _ _ h => ⟨h.1, by rw [h.1]; exact n_0 hM h.2⟩)
theorem nM143 {u k : Int} (hd : 6 ≤ d) (hM : n_MI s) (hu : n_rng u) (hk : n_rng k) : NG Z (d + 2) 143 [xR 25, xI u, xI k] s (n_LKP s) := by
  have hrg := hM.2.1.2.1
  refine NG_mono (ng143 hd hu hk hM.2.1.1 (fun i => (hrg i).1) (fun i => (hrg i).2.2.1) (fun h1 h2 => ?_)) (fun _ _ h => n_0s hM h)
  obtain ⟨u1, u2, u3, -⟩ := hM.2.1.2.2 u.toNat (by omega)
  by_cases h27 : s.2 27 u.toNat = 2
  · obtain ⟨⟨e1, e2⟩, -⟩ := u2 h27
    rw [e1, e2]
    decide
  · obtain ⟨D, z, -, -, -, -, b5, b6, b7⟩ := u3 h27
    exact ⟨⟨by omega, b6⟩, b7⟩
theorem nM146 (hd : 6 ≤ d) (hM : n_MI s) : NG Z d 146 [xR 25] s (fun r s' => r = none ∧ n_MI s' ∧ n_TP s s') := by
  refine NG_mono (ng146 hd) (fun r s' h => ⟨h.1, ?_⟩)
  rw [h.2]
  obtain ⟨⟨a1, a2, a3, a4⟩, hU, hX⟩ := hM
  exact ⟨⟨⟨a1, a2, a3, a4⟩, ⟨⟨by show (0 : Int) ≤ 0; decide, by show (0 : Int) ≤ 16; decide⟩, hU.2.1, fun u hu => by
    have hu : (u : Int) < 0 := hu
    omega⟩, n_XI_fr hX (fun k hk => by show n_upd (n_upd s.1 0 0) 2 0 k = _; rw [n_u_ne (by omega), n_u_ne (by omega)]) (fun _ _ _ => rfl) hX.1⟩, rfl, rfl, rfl⟩
theorem nM155 (hd : 6 ≤ d) (hM : n_MI s) : NG Z d 155 [xR 25] s (n_LKP s) := NG_mono (ng155 hd) (fun _ _ h => by rw [h.1]; exact n_0 hM h.2)
theorem nM156 {k : Int} (hd : 6 ≤ d) (hM : n_MI s) (hk : n_rng k) : NG Z d 156 [xR 25, xI k] s (n_LKP s) := by
  obtain ⟨D, K, hI, -⟩ := hM.2.2.2
  exact NG_mono (ng156 hd hk hI.1) (fun _ _ h => n_0s hM h)
theorem nM157 (hd : 6 ≤ d) (hM : n_MI s) : NG Z (d + 1) 157 [xR 25] s (n_LKP s) := by
  obtain ⟨D, K, hI, hR, h0⟩ := hM.2.2.2
  refine NG_mono (ng157 hd hI.1) (fun r s' h => ?_)
  obtain _ | r := r
  · exact h
  rcases h with ⟨-, h⟩ | ⟨hz, h⟩
  · exact n_0 hM h
  · rw [h]
    obtain ⟨hD0, hK0⟩ := h0 hz
    obtain ⟨⟨a1, a2, a3, a4⟩, hU, hX⟩ := hM
    have h46 := hI.1
    refine ⟨⟨⟨a1, a2, a3, a4⟩, n_UI_fr hU rfl (fun _ _ _ => rfl), hX.1, D, K, n_IV_fr hI rfl (fun _ => rfl), ?_, h0⟩, rfl, rfl, rfl⟩
    refine ⟨⟨by show (0 : Int) ≤ 0; decide, by show (0 : Int) ≤ 120; decide⟩, hR.2.1, ⟨by show -2147483648 ≤ (1 : Int); decide, by show (1 : Int) < 2147483648; decide⟩, fun _ => ⟨⟨by show (0 : Int) ≤ 0; decide, by show (0 : Int) < s.1 46; omega⟩, ?_, ?_, by show (0 : Int) ≤ 0; decide, ⟨by show (0 : Int) ≤ 0; decide, by show (0 : Int) ≤ 24; decide⟩, fun hk => ?_, fun i hi => ?_⟩⟩
    · show 0 ≤ D 0
      rw [hD0]
      decide
    · show (0 : Int) = 0 + D 0
      rw [hD0]
      rfl
    · have hk : K 0 = true := hk
      rw [hK0] at hk
      cases hk
    · have hi : (i : Int) < 0 := hi
      omega
theorem nM158 {n : Int} (hd : 6 ≤ d) (hM : n_MI s) (hn : n_rng n) : NG Z (d + 2) 158 [xR 25, xI n] s (n_LKP s) := by
  obtain ⟨D, K, hI, hR, h0⟩ := hM.2.2.2
  refine NG_mono (ng158 hd hn hI hR) (fun r s' h => ?_)
  obtain _ | r := r
  · exact h
  obtain ⟨h1, h2, h3⟩ := h
  obtain ⟨⟨a1, a2, a3, a4⟩, hU, hX⟩ := hM
  refine ⟨⟨⟨by rw [h2 1 (by decide)]; exact a1, fun i => by rw [h3 26 i (by decide)]; exact a2 i, fun i hi => ?_, fun i => by rw [h3 36 i (by decide)]; exact a4 i⟩, n_UI_fr hU (h2 2 (by decide)) (fun a i ha => h3 a i (by omega)), fun i => by rw [h3 52 i (by decide)]; exact hX.1 i, D, K, n_IV_fr hI (h2 46 (by decide)) (fun i => h3 54 i (by decide)), h1, by rw [h2 46 (by decide)]; exact h0⟩, h2 1 (by decide), h2 3 (by decide), funext (fun i => h3 26 i (by decide))⟩
  rw [h2 1 (by decide)] at hi
  rw [h3 26 i (by decide)]
  exact a3 i hi
theorem nM163 {k : Int} (hd : 6 ≤ d) (hM : n_MI s) (hk : n_rng k) : NG Z d 163 [xR 25, xI k] s (n_LKP s) := NG_mono (ng163 hd hk) (fun _ _ h => n_0s hM h)
theorem nM164 {k : Int} (hd : 6 ≤ d) (hM : n_MI s) (hk : n_rng k) : NG Z d 164 [xR 25, xI k] s (n_LKP s) := by
  obtain ⟨D, K, -, hR, -⟩ := hM.2.2.2
  exact NG_mono (ng164 hd hk hR.1) (fun _ _ h => n_0s hM h)
theorem nM165 (hd : 6 ≤ d) (hM : n_MI s) : NG Z d 165 [xR 25] s (n_LKP s) := by
  obtain ⟨D, K, -, hR, -⟩ := hM.2.2.2
  exact NG_mono (ng165 hd hR.1) (fun _ _ h => n_0s hM h)
theorem nM110 (hd : 6 ≤ d) (hM : n_MI s) : NG Z (d + 7) 110 [xR 25] s (n_CO s) := ng110 hd hM
theorem nM147 (hd : 6 ≤ d) (hM : n_MI s) : NG Z (d + 2) 147 [xR 25] s (n_LKP s) := ng147 hd hM
/-- a new reference: all zero but the position -/
theorem n_MI_0 (h0 : ∀ k, ¬ k = 3 → s.1 k = 0) (hA : ∀ a i, s.2 a i = 0) : n_MI s := by
  have r0 : n_rng 0 := ⟨by decide, by decide⟩
  refine ⟨⟨by rw [h0 1 (by decide)]; decide, fun i => by rw [hA]; decide, fun i hi => ?_, fun i => by rw [hA]; decide⟩, ⟨by rw [h0 2 (by decide)]; decide, fun i => by rw [hA, hA, hA, hA, hA]; exact ⟨⟨r0, r0⟩, r0, r0, r0⟩, fun u hu => ?_⟩, fun i => by rw [hA]; exact r0, fun _ => -1, fun _ => false, ⟨by rw [h0 46 (by decide)]; decide, fun p hp => ?_⟩, ⟨by rw [h0 51 (by decide)]; decide, fun i => by rw [hA]; exact r0, by rw [h0 48 (by decide)]; exact r0, fun h => ?_⟩, fun h => absurd (h0 46 (by decide)) h⟩
  · rw [h0 1 (by decide)] at hi
    omega
  · rw [h0 2 (by decide)] at hu
    omega
  · rw [h0 46 (by decide)] at hp
    omega
  · rw [h0 48 (by decide)] at h
    exact absurd h (by decide)
end N62
