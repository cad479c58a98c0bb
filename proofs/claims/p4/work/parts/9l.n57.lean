section N57
variable {Z : Nat → List Int32} {d : Nat} {s : nS} {u F S z : Nat} {D : Nat → Int} {Post : nA → nS → Prop}
/-- the jumps are moved -/
theorem n_l151b (hd : 6 ≤ d) (hY : n_CY s u F S D z) (h150 : ∀ (A : Nat → Nat → Int) (o3 o : Option nV), n_Jn s F S A → n_IM (A 54) F (n_cU s u) D z (fun _ => True) (fun _ _ => True) → NP Z (d + 1) 151 150 [some (xR 25), some (xI u), some (xI F), o3, o] [] (s.1, A) Post) : ∀ (m k : Nat) (A : Nat → Nat → Int) (o : Option nV), S ≤ k + m → n_Jn s F S A → n_IM (A 54) F (n_cU s u) D z (fun p => p < k) (fun _ _ => True) → ((k ≤ z ∧ 0 ≤ D k) ∨ k = S) → NP Z (d + 1) 151 40 (n_Ly u F k o) [] (s.1, A) Post := by
  obtain ⟨hCZ, hz1, hS2, hS3, hS4⟩ := n_CY_CZ hY
  have hY0 := hY
  obtain ⟨hV, h16, hS, hF, -⟩ := hY
  intro m
  induction m with
  | zero =>
    intro k A o hk hJ hI hkz
    have e30 : A 30 ((u : Int).toNat) = (S : Int) := by rw [hJ.1 30 _ (by decide), Int.toNat_natCast]; exact hS
    refine n_at nb151_40 (by omega) rfl ⟨⟨by omega, by omega⟩, ⟨by omega, by omega⟩, by show n_rng (A 30 ((u : Int).toNat)); rw [e30]; exact ⟨by omega, by omega⟩, fun _ => ?_, fun z' => ?_⟩
    · refine h150 A _ _ hJ (fun p hp hD => ?_)
      obtain ⟨i1, i2, i3, i4⟩ := hI p hp hD
      exact ⟨i1, i2, fun h _ => i3 h (by omega), i4⟩
    · have z' : ¬ A 30 ((u : Int).toNat) ≤ (k : Int) := z'
      rw [e30] at z'
      omega
  | succ m ih =>
    intro k A o hk hJ hI hkz
    have e30 : A 30 ((u : Int).toNat) = (S : Int) := by rw [hJ.1 30 _ (by decide), Int.toNat_natCast]; exact hS
    refine n_at nb151_40 (by omega) rfl ⟨⟨by omega, by omega⟩, ⟨by omega, by omega⟩, by show n_rng (A 30 ((u : Int).toNat)); rw [e30]; exact ⟨by omega, by omega⟩, fun _ => ?_, fun z' => ?_⟩
    · rename_i z'
      have z' : A 30 ((u : Int).toNat) ≤ (k : Int) := z'
      rw [e30] at z'
      refine h150 A _ _ hJ (fun p hp hD => ?_)
      obtain ⟨i1, i2, i3, i4⟩ := hI p hp hD
      exact ⟨i1, i2, fun h _ => i3 h (by omega), i4⟩
    have z' : ¬ A 30 ((u : Int).toNat) ≤ (k : Int) := z'
    rw [e30] at z'
    obtain ⟨hkz, hDk⟩ : k ≤ z ∧ 0 ≤ D k := by
      rcases hkz with h | h
      · exact h
      · omega
    have ik : (200 * (u : Int) + k).toNat = 200 * u + k := by omega
    have eA : ∀ A : Nat → Nat → Int, n_Jn s F S A → A 31 (200 * (u : Int) + k).toNat = n_cU s u k := fun A hJ => by rw [hJ.1 31 _ (by decide), ik]; rfl
    have hcr : 0 ≤ n_cU s u k ∧ n_cU s u k ≤ 14 := by
      by_cases hq : k = z
      · have := hCZ.2.2
        rw [hq]
        omega
      · have := (n_nxt hCZ (by omega) hDk).1
        omega
    have h129 : ∀ (A : Nat → Nat → Int), n_Jn s F S A → n_IM (A 54) F (n_cU s u) D z (fun p => p < k + 1) (fun _ _ => True) → NP Z (d + 1) 151 129 (n_Ly u F k (some (xI (n_cU s u k)))) [] (s.1, A) Post := by
      intro A hJ hI
      refine n_at nb151_129 (by omega) rfl ⟨⟨by omega, by omega⟩, ?_⟩
      show wq _ _ _ _ _ [xI (A 31 (200 * (u : Int) + k).toNat), xI (k : Int)] (s.1, A)
      rw [eA A hJ]
      refine n_is (d := d) (vs := [xI (n_cU s u k)]) (r := [xI (k : Int)]) nn153 (by simp) (ng153 hd ⟨by omega, by omega⟩) (fun r s' hr => ?_)
      rw [hr.1, hr.2]
      have hwd : 1 ≤ n_wide (n_cU s u k) ∧ n_wide (n_cU s u k) ≤ 4 ∧ (((k + (n_wide (n_cU s u k)).toNat ≤ z ∧ 0 ≤ D (k + (n_wide (n_cU s u k)).toNat)) ∨ k + (n_wide (n_cU s u k)).toNat = S)) := by
        by_cases hq : k = z
        · rcases hCZ.2.2 with h | h
          · rw [hq, h]
            exact ⟨by decide, by decide, Or.inr (hS4 h).symm⟩
          · rw [hq, h]
            exact ⟨by decide, by decide, Or.inr (hS3 h).symm⟩
        · have := n_nxt hCZ (by omega) hDk
          exact ⟨this.2.2.2.1, this.2.2.2.2, Or.inl ⟨this.2.1, this.2.2.1⟩⟩
      have := ih (k + (n_wide (n_cU s u k)).toNat) A (some (xI (n_cU s u k))) (by omega) hJ (fun p hp hD => ?_) hwd.2.2
      · rw [show n_Ly u F (k + (n_wide (n_cU s u k)).toNat) (some (xI (n_cU s u k))) = [some (xR 25), some (xI u), some (xI F), some (xI ((k : Int) + n_wide (n_cU s u k))), some (xI (n_cU s u k))] from by unfold n_Ly; rw [show ((k + (n_wide (n_cU s u k)).toNat : Nat) : Int) = (k : Int) + n_wide (n_cU s u k) from by omega]] at this
        exact this
      · obtain ⟨i1, i2, i3, i4⟩ := hI p hp hD
        refine ⟨i1, i2, fun h hlt => i3 h ?_, i4⟩
        apply Classical.byContradiction
        intro hcn
        by_cases hq : k = z
        · omega
        · have hcv := hCZ.1.2.2 k (by omega) hDk
          have hwc := n_nxt hCZ (by omega) hDk
          have r1 : p = k + 1 → 0 ≤ D (k + 1) := fun h => by rw [← h]; exact hD
          have r2 : p = k + 2 → 0 ≤ D (k + 2) := fun h => by rw [← h]; exact hD
          have r3 : p = k + 3 → 0 ≤ D (k + 3) := fun h => by rw [← h]; exact hD
          unfold n_cv at hcv
          unfold n_wide at hlt
          rcases hcv with g | g | g | g | g | g | g | g | g
          · rw [if_pos (by omega)] at hlt; omega
          · rw [if_neg (by omega), if_pos (by omega)] at hlt; omega
          · rw [if_neg (by omega), if_neg (by omega), if_neg (by omega)] at hlt; omega
          · rw [if_pos (by omega)] at hlt; omega
          · rw [if_pos (by omega)] at hlt; omega
          · rw [if_neg (by omega), if_neg (by omega), if_neg (by omega)] at hlt; omega
          · rw [if_neg (by omega), if_neg (by omega), if_neg (by omega)] at hlt; omega
          · rw [if_neg (by omega), if_pos (by omega)] at hlt; omega
          · rw [if_neg (by omega), if_neg (by omega), if_pos (by omega)] at hlt; omega
    have hJ129 : (¬ n_cU s u k = 7 ∧ ¬ n_cU s u k = 8) → n_IM (A 54) F (n_cU s u) D z (fun p => p < k + 1) (fun _ _ => True) := by
      intro hne p hp hD
      obtain ⟨i1, i2, i3, i4⟩ := hI p hp hD
      refine ⟨i1, i2, fun h hlt => i3 h ?_, i4⟩
      apply Classical.byContradiction
      intro hcn
      have : p = k := by omega
      rw [this] at h
      omega
    have h78 : (n_cU s u k = 7 ∨ n_cU s u k = 8) → NP Z (d + 1) 151 78 (n_Ly u F k (some (xI (n_cU s u k)))) [] (s.1, A) Post := by
      intro hop
      have hkz2 : k < z := by
        apply Classical.byContradiction
        intro hcn
        have : k = z := by omega
        rw [this] at hop
        have := hCZ.2.2
        omega
      have hcv := hCZ.1.2.2 k hkz2 hDk
      have hk3 : k + 3 ≤ z ∧ (0 ≤ n_tg (n_cU s u) (k + 1) ∧ n_tg (n_cU s u) (k + 1) ≤ z) := by
        unfold n_cv at hcv
        rcases hcv with g | g | g | g | g | g | g | g | g <;> first | omega | skip
        · refine ⟨g.2.1, ?_⟩
          rcases g.2.2.2.2.2 with q | q
          · exact q.elim
          · exact q.1
        · refine ⟨g.2.1, ?_⟩
          rcases g.2.2.2.2.2.2 with q | q
          · exact q.elim
          · exact q.1
      have e1 : A 31 (200 * (u : Int) + k + 1).toNat = n_cU s u (k + 1) := by rw [hJ.1 31 _ (by decide), show (200 * (u : Int) + k + 1).toNat = 200 * u + (k + 1) from by omega]; rfl
      have e2 : A 31 (200 * (u : Int) + k + 2).toNat = n_cU s u (k + 1 + 1) := by rw [hJ.1 31 _ (by decide), show (200 * (u : Int) + k + 2).toNat = 200 * u + (k + 1 + 1) from by omega]; rfl
      refine n_at nb151_78 (by omega) rfl ⟨⟨by omega, by omega⟩, ⟨by omega, by omega⟩, ?_⟩
      show wq _ _ _ _ _ [xI ((F : Int) + n_or (n_shl (A 31 (200 * (u : Int) + k + 1).toNat % 256) 8) (A 31 (200 * (u : Int) + k + 2).toNat % 256)), xI ((F : Int) + k + 1), xR 25] (s.1, A)
      rw [e1, e2]
      show wq _ _ _ _ _ [xI ((F : Int) + n_tg (n_cU s u) (k + 1)), xI ((F : Int) + k + 1), xR 25] (s.1, A)
      refine n_iv (d := d) (vs := [xR 25, xI ((F : Int) + k + 1), xI ((F : Int) + n_tg (n_cU s u) (k + 1))]) (r := []) nn152 (by simp) rfl nc152 (ng152 (s := (s.1, A)) hd ⟨by omega, by omega⟩) (fun r s' hr => ?_)
      rw [hr.1, hr.2]
      have i1 : ((F : Int) + k + 1).toNat = F + k + 1 := by omega
      have i2 : ((F : Int) + k + 1 + 1).toNat = F + k + 2 := by omega
      show NP Z (d + 1) 151 129 (n_Ly u F k (some (xI (n_cU s u k)))) [] (s.1, n_updA (n_updA A 54 ((F : Int) + k + 1).toNat (n_by (n_shr ((F : Int) + n_tg (n_cU s u) (k + 1)) 8))) 54 ((F : Int) + k + 1 + 1).toNat (n_by ((F : Int) + n_tg (n_cU s u) (k + 1)))) Post
      rw [i1, i2]
      have hw : ∀ j, n_updA (n_updA A 54 (F + k + 1) (n_by (n_shr ((F : Int) + n_tg (n_cU s u) (k + 1)) 8))) 54 (F + k + 2) (n_by ((F : Int) + n_tg (n_cU s u) (k + 1))) 54 j = if j = F + k + 2 then n_by ((F : Int) + n_tg (n_cU s u) (k + 1)) else if j = F + k + 1 then n_by (n_shr ((F : Int) + n_tg (n_cU s u) (k + 1)) 8) else A 54 j := fun j => by rw [n_ua_eq, n_ua_eq]
      refine h129 _ ⟨fun a i ha => ?_, fun i hi => ?_⟩ ?_
      · rw [n_ua_ne ha, n_ua_ne ha]
        exact hJ.1 a i ha
      · rw [hw, if_neg (by omega), if_neg (by omega)]
        exact hJ.2 i hi
      · refine n_IM_w (p0 := k) (x := (F : Int) + n_tg (n_cU s u) (k + 1)) hI hCZ hkz2 hDk (by omega) (fun j j1 j2 => by rw [hw, if_neg j2, if_neg j1]) (n_tg_put ⟨by omega, by omega⟩ (by rw [hw, if_neg (by omega), if_pos rfl]) (by rw [hw, if_pos rfl])) (fun p hp h => by omega) (fun _ _ _ _ => trivial) (fun _ => rfl) (fun _ => trivial)
    refine ⟨⟨by omega, by omega⟩, ?_⟩
    show wq _ _ _ [.istore 4, .iload 4, .sipush 7, .if_icmp .eq 78, .iload 4, .sipush 8, .if_icmp .ne 129, .goto_w 78] (n_Ly u F k o) [xI (A 31 (200 * (u : Int) + k).toNat)] (s.1, A)
    rw [eA A hJ]
    refine ⟨⟨by omega, by omega⟩, ⟨by decide, by decide⟩, fun q => h78 (Or.inl q), fun q => ⟨⟨by omega, by omega⟩, ⟨by decide, by decide⟩, fun q2 => h129 A hJ (hJ129 ⟨q, q2⟩), fun q2 => h78 (Or.inr q2)⟩⟩
/-- copy -/
theorem ng151 (hd : 6 ≤ d) (hY : n_CY s u F S D z) : NG Z (d + 1) 151 [xR 25, xI u, xI F] s (fun r s' => r = none ∧ s'.1 = s.1 ∧ n_Jn s F S s'.2 ∧ n_IM (s'.2 54) F (n_cU s u) D z (fun _ => True) (n_TF s u)) := by
  obtain ⟨hCZ, hz1, hS2, hS3, hS4⟩ := n_CY_CZ hY
  have h32 := hY.1.2.2.2.2.2.2
  have h16 := hY.2.1
  refine n_G_of (L := [some (xR 25), some (xI u), some (xI F), none, none]) (by rw [nl151]; exact Nat.le_of_ble_eq_true rfl) (by rw [nl151]; rfl) ?_
  refine n_at nb151_0 (by omega) rfl ?_
  have h210 : ∀ (A : Nat → Nat → Int) (k : Nat) (o : Option nV), n_Jn s F S A → n_IM (A 54) F (n_cU s u) D z (fun _ => True) (n_TF s u) → NP Z (d + 1) 151 210 (n_Ly u F k o) [] (s.1, A) (fun r s' => r = none ∧ s'.1 = s.1 ∧ n_Jn s F S s'.2 ∧ n_IM (s'.2 54) F (n_cU s u) D z (fun _ => True) (n_TF s u)) := fun A k o h1 h2 => n_at nb151_210 (by omega) rfl ⟨rfl, rfl, rfl, h1, h2⟩
  have h150 : ∀ (A : Nat → Nat → Int) (o3 o : Option nV), n_Jn s F S A → n_IM (A 54) F (n_cU s u) D z (fun _ => True) (fun _ _ => True) → NP Z (d + 1) 151 150 [some (xR 25), some (xI u), some (xI F), o3, o] [] (s.1, A) (fun r s' => r = none ∧ s'.1 = s.1 ∧ n_Jn s F S s'.2 ∧ n_IM (s'.2 54) F (n_cU s u) D z (fun _ => True) (n_TF s u)) := by
    intro A o3 o h1 h2
    refine n_at nb151_150 (by omega) rfl ?_
    refine n_l151c hd hY (o := o) (fun A k h1 h2 => h210 A k o h1 h2) (s.2 32 u).toNat 0 A (by omega) h1 (fun p hp hD => ?_)
    obtain ⟨i1, i2, i3, i4⟩ := h2 p hp hD
    refine ⟨i1, i2, i3, fun h => ⟨(i4 h).1, fun hex => ?_⟩⟩
    obtain ⟨j, j1, j2⟩ := hex
    omega
  have hJ0 : n_Jn s F S (n_cp s.2 54 F S (fun j => n_b (n_cU s u j))) := ⟨fun a i ha => n_cp_ne ha, fun i hi => by rw [n_cp_eq, if_neg (by omega)]⟩
  have h38 : NP Z (d + 1) 151 38 (n_Ly u F S none) [] (s.1, n_cp s.2 54 F S (fun j => n_b (n_cU s u j))) (fun r s' => r = none ∧ s'.1 = s.1 ∧ n_Jn s F S s'.2 ∧ n_IM (s'.2 54) F (n_cU s u) D z (fun _ => True) (n_TF s u)) := by
    refine n_at nb151_38 (by omega) rfl ?_
    refine n_l151b hd hY h150 S 0 _ none (by omega) hJ0 (fun p hp hD => ?_) (Or.inl ⟨by omega, hCZ.1.1⟩)
    have hr := n_IM_raw (A := n_cp s.2 54 F S (fun j => n_b (n_cU s u j)) 54) (F := F) hCZ (fun j hj => by rw [n_cp_eq, if_pos (by omega), show F + j - F = j from by omega])
    obtain ⟨i1, i2, i3, i4⟩ := hr p hp hD
    exact ⟨i1, i2, fun _ h => by omega, i4⟩
  have := n_l151a (Z := Z) (d := d + 1) (by omega) hY h38 S 0 (by omega)
  rw [n_cp_0] at this
  exact this
end N57
