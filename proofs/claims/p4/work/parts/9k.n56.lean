/-! THE REFERENCE'S copy -/
def n_cU (s : nS) (u : Nat) : Nat → Int := fun j => s.2 31 (200 * u + j)
/-- only the image differs, and only where a unit lies -/
def n_Jn (s : nS) (F S : Nat) (A : Nat → Nat → Int) : Prop := (∀ a i, a ≠ 54 → A a i = s.2 a i) ∧ (∀ i, (i < F ∨ F + S ≤ i) → A 54 i = s.2 54 i)
/-- a call's place -/
def n_tgt (s : nS) (u j : Nat) : Int := s.2 53 (n_stands s (n_latest s 1 (s.2 34 (50 * u + j)))).toNat
def n_TK (s : nS) (u k : Nat) (p : Nat) (x : Int) : Prop := (∃ j : Nat, j < k ∧ s.2 33 (50 * u + j) = (p : Int) + 1) → ∃ j : Nat, j < k ∧ s.2 33 (50 * u + j) = (p : Int) + 1 ∧ x = n_tgt s u j
def n_TF (s : nS) (u : Nat) (p : Nat) (x : Int) : Prop := ∃ j : Nat, (j : Int) < s.2 32 u ∧ s.2 33 (50 * u + j) = (p : Int) + 1 ∧ x = n_tgt s u j
/-- what copying is given -/
def n_CY (s : nS) (u F S : Nat) (D : Nat → Int) (z : Nat) : Prop := n_UV s u D z ∧ u < 16 ∧ s.2 30 u = (S : Int) ∧ F + S ≤ 600 ∧ (∀ j : Nat, (j : Int) < s.2 32 u → 0 ≤ n_latest s 1 (s.2 34 (50 * u + j)) ∧ 0 ≤ n_stands s (n_latest s 1 (s.2 34 (50 * u + j))) ∧ (0 ≤ n_tgt s u j ∧ n_tgt s u j ≤ 600)) ∧ (0 ≤ s.1 2 ∧ s.1 2 ≤ 16) ∧ (0 ≤ s.1 43 ∧ s.1 43 ≤ 16) ∧ (∀ i, n_rng (s.2 27 i) ∧ n_rng (s.2 28 i)) ∧ (∀ i, n_rng (s.2 34 i)) ∧ (∀ i, n_rng (s.2 52 i))
section N56
variable {Z : Nat → List Int32} {d : Nat} {s : nS} {u F S z : Nat} {D : Nat → Int} {Post : nA → nS → Prop}
theorem n_CY_CZ (h : n_CY s u F S D z) : n_CZ (n_cU s u) D z (fun q => ∃ j : Nat, (j : Int) < s.2 32 u ∧ s.2 33 (50 * u + j) = (q : Int)) ∧ z + 1 ≤ S ∧ S ≤ 200 ∧ (n_cU s u z = 14 → S = z + 1) ∧ (n_cU s u z = 13 → S = z + 2) := by
  obtain ⟨⟨b1, b2, b3, b4, b5, b6, b7⟩, h16, hS, hF, h5, h6⟩ := h
  have hp : 0 ≤ D 0 := b1.1
  refine ⟨⟨b1, by omega, ?_⟩, by omega, by omega, fun h => ?_, fun h => ?_⟩
  · rcases b5 with b5 | b5
    · exact Or.inr b5.2.1
    · exact Or.inl b5.2.1
  · have h : s.2 31 (200 * u + z) = 14 := h
    omega
  · have h : s.2 31 (200 * u + z) = 13 := h
    omega
def n_Ly (u F k : Nat) (o : Option nV) : nL := [some (xR 25), some (xI u), some (xI F), some (xI k), o]
/-- bytes are copied -/
theorem n_l151a (hd : 6 ≤ d) (hY : n_CY s u F S D z) {o : Option nV} (h38 : NP Z d 151 38 (n_Ly u F S o) [] (s.1, n_cp s.2 54 F S (fun j => n_b (n_cU s u j))) Post) : ∀ (q k : Nat), k + q = S → NP Z d 151 2 (n_Ly u F k o) [] (s.1, n_cp s.2 54 F k (fun j => n_b (n_cU s u j))) Post
  | 0, k, hk => by
    have e30 : n_cp s.2 54 F k (fun j => n_b (n_cU s u j)) 30 ((u : Int).toNat) = (S : Int) := by rw [n_cp_ne (by decide), Int.toNat_natCast]; exact hY.2.2.1
    have h16 := hY.2.1
    have hF := hY.2.2.2.1
    refine n_at nb151_2 hd rfl ⟨⟨by omega, by omega⟩, ⟨by omega, by omega⟩, by show n_rng (n_cp s.2 54 F k (fun j => n_b (n_cU s u j)) 30 ((u : Int).toNat)); rw [e30]; exact ⟨by omega, by omega⟩, fun _ => ?_, fun z' => ?_⟩
    · have : k = S := by omega
      rw [this]
      exact h38
    · have z' : ¬ n_cp s.2 54 F k (fun j => n_b (n_cU s u j)) 30 ((u : Int).toNat) ≤ (k : Int) := z'
      rw [e30] at z'
      omega
  | q + 1, k, hk => by
    have e30 : n_cp s.2 54 F k (fun j => n_b (n_cU s u j)) 30 ((u : Int).toNat) = (S : Int) := by rw [n_cp_ne (by decide), Int.toNat_natCast]; exact hY.2.2.1
    have h16 := hY.2.1
    have hF := hY.2.2.2.1
    have hS := (n_CY_CZ hY).2.2.1
    refine n_at nb151_2 hd rfl ⟨⟨by omega, by omega⟩, ⟨by omega, by omega⟩, by show n_rng (n_cp s.2 54 F k (fun j => n_b (n_cU s u j)) 30 ((u : Int).toNat)); rw [e30]; exact ⟨by omega, by omega⟩, fun z' => ?_, fun _ => ?_⟩
    · have z' : n_cp s.2 54 F k (fun j => n_b (n_cU s u j)) 30 ((u : Int).toNat) ≤ (k : Int) := z'
      rw [e30] at z'
      omega
    refine ⟨⟨by omega, by omega⟩, ⟨by omega, by omega⟩, ?_⟩
    have := n_l151a hd hY h38 q (k + 1) (by omega)
    rw [← n_cp_succ (A := s.2) (a := 54) (base := F) (k := k) (i := ((F : Int) + k).toNat) (x := n_b (n_cp s.2 54 F k (fun j => n_b (n_cU s u j)) 31 (200 * (u : Int) + k).toNat)) (g := fun j => n_b (n_cU s u j)) (by omega) (by rw [n_cp_ne (by decide), show (200 * (u : Int) + k).toNat = 200 * u + k from by omega]; rfl), show n_Ly u F (k + 1) o = [some (xR 25), some (xI u), some (xI F), some (xI ((k : Int) + 1)), o] from by unfold n_Ly; rw [show ((k + 1 : Nat) : Int) = (k : Int) + 1 from by omega]] at this
    exact this
/-- the calls' places are put -/
theorem n_l151c (hd : 6 ≤ d) (hY : n_CY s u F S D z) {o : Option nV} (h210 : ∀ (A : Nat → Nat → Int) (k : Nat), n_Jn s F S A → n_IM (A 54) F (n_cU s u) D z (fun _ => True) (n_TF s u) → NP Z (d + 1) 151 210 (n_Ly u F k o) [] (s.1, A) Post) : ∀ (q k : Nat) (A : Nat → Nat → Int), (k : Int) + q = s.2 32 u → n_Jn s F S A → n_IM (A 54) F (n_cU s u) D z (fun _ => True) (n_TK s u k) → NP Z (d + 1) 151 152 (n_Ly u F k o) [] (s.1, A) Post := by
  obtain ⟨hCZ, hz1, hS2, hS3, hS4⟩ := n_CY_CZ hY
  have hY0 := hY
  obtain ⟨hV, h16, hS, hF, h5, h6, h7, h8, h9, h10⟩ := hY
  have h32 := hV.2.2.2.2.2.2
  intro q
  induction q with
  | zero =>
    intro k A hk hJ hI
    have e32 : A 32 ((u : Int).toNat) = s.2 32 u := by rw [hJ.1 32 _ (by decide), Int.toNat_natCast]
    refine n_at nb151_152 (by omega) rfl ⟨⟨by omega, by omega⟩, ⟨by omega, by omega⟩, by show n_rng (A 32 ((u : Int).toNat)); rw [e32]; exact ⟨by omega, by omega⟩, fun _ => ?_, fun z' => ?_⟩
    · refine h210 A k hJ (fun p hp hD => ?_)
      obtain ⟨i1, i2, i3, i4⟩ := hI p hp hD
      refine ⟨i1, i2, i3, fun h => ⟨(i4 h).1, ?_⟩⟩
      have hpz : p < z := by
        apply Classical.byContradiction
        intro hcn
        have : p = z := by omega
        rw [this] at h
        have := hCZ.2.2
        omega
      have hcv := hCZ.1.2.2 p hpz hD
      have hM : ∃ j : Nat, (j : Int) < s.2 32 u ∧ s.2 33 (50 * u + j) = ((p + 1 : Nat) : Int) := by
        unfold n_cv at hcv
        rcases hcv with g | g | g | g | g | g | g | g | g <;> first | omega | exact g.2.2.2.2.2.2.2
      obtain ⟨j, j1, j2⟩ := hM
      obtain ⟨j', k1, k2, k3⟩ := (i4 h).2 ⟨j, by omega, by rw [j2]; omega⟩
      exact ⟨j', by omega, k2, k3⟩
    · have z' : ¬ A 32 ((u : Int).toNat) ≤ (k : Int) := z'
      rw [e32] at z'
      omega
  | succ q ih =>
    intro k A hk hJ hI
    have e32 : A 32 ((u : Int).toNat) = s.2 32 u := by rw [hJ.1 32 _ (by decide), Int.toNat_natCast]
    refine n_at nb151_152 (by omega) rfl ⟨⟨by omega, by omega⟩, ⟨by omega, by omega⟩, by show n_rng (A 32 ((u : Int).toNat)); rw [e32]; exact ⟨by omega, by omega⟩, fun z' => ?_, fun _ => ?_⟩
    · have z' : A 32 ((u : Int).toNat) ≤ (k : Int) := z'
      rw [e32] at z'
      omega
    have i50 : (50 * (u : Int) + k).toNat = 50 * u + k := by omega
    have e33 : A 33 (50 * (u : Int) + k).toNat = s.2 33 (50 * u + k) := by rw [hJ.1 33 _ (by decide), i50]
    have e34 : A 34 (50 * (u : Int) + k).toNat = s.2 34 (50 * u + k) := by rw [hJ.1 34 _ (by decide), i50]
    obtain ⟨l1, l2, l3⟩ := h5 k (by omega)
    obtain ⟨p, p1, p2, p3, p4⟩ := hV.2.1 k (by omega)
    have eL : n_latest (s.1, A) 1 (s.2 34 (50 * u + k)) = n_latest s 1 (s.2 34 (50 * u + k)) := by
      unfold n_latest
      rw [show (s.1, A).2 27 = s.2 27 from funext (fun i => hJ.1 27 i (by decide)), show (s.1, A).2 28 = s.2 28 from funext (fun i => hJ.1 28 i (by decide))]
    have eSt : n_stands (s.1, A) (n_latest s 1 (s.2 34 (50 * u + k))) = n_stands s (n_latest s 1 (s.2 34 (50 * u + k))) := by
      unfold n_stands
      rw [show (s.1, A).2 52 = s.2 52 from funext (fun i => hJ.1 52 i (by decide))]
    have hlb := n_lat_b (fun i => decide (s.2 27 i = 1 ∧ s.2 28 i = s.2 34 (50 * u + k))) (s.1 2).toNat
    have hlb : n_latest s 1 (s.2 34 (50 * u + k)) < ((s.1 2).toNat : Nat) := hlb.2
    have hsb := n_lat_b (fun i => decide (s.2 52 i = n_latest s 1 (s.2 34 (50 * u + k)))) (s.1 43).toNat
    have hsb : n_stands s (n_latest s 1 (s.2 34 (50 * u + k))) < ((s.1 43).toNat : Nat) := hsb.2
    refine ⟨⟨by omega, by omega⟩, ⟨by omega, by omega⟩, ?_⟩
    show wq _ _ _ _ _ [xI (A 34 (50 * (u : Int) + k).toNat), xI 1, xR 25, xR 25, xR 53, xI ((F : Int) + A 33 (50 * (u : Int) + k).toNat), xR 25] (s.1, A)
    rw [e33, e34, p1]
    refine n_iv (d := d) (vs := [xR 25, xI 1, xI (s.2 34 (50 * u + k))]) (r := [xR 25, xR 53, xI ((F : Int) + ((p : Int) + 1)), xR 25]) nn148 (by simp) rfl nc148 (ng148 (s := (s.1, A)) hd ⟨by decide, by decide⟩ (h9 _) (fun i => by show n_rng (A 27 i) ∧ n_rng (A 28 i); rw [hJ.1 27 i (by decide), hJ.1 28 i (by decide)]; exact h8 i) h6) (fun r s' hr => ?_)
    rw [hr.1, hr.2, eL]
    refine n_iv (d := d) (vs := [xR 25, xI (n_latest s 1 (s.2 34 (50 * u + k)))]) (r := [xR 53, xI ((F : Int) + ((p : Int) + 1)), xR 25]) nn150 (by simp) rfl nc150 (ng150 (s := (s.1, A)) hd ⟨by omega, by omega⟩ (fun i => by show n_rng (A 52 i); rw [hJ.1 52 i (by decide)]; exact h10 i) h7) (fun r s' hr => ?_)
    rw [hr.1, hr.2, eSt]
    refine ⟨⟨l2, by omega⟩, ?_⟩
    have e53 : A 53 (n_stands s (n_latest s 1 (s.2 34 (50 * u + k)))).toNat = n_tgt s u k := by rw [hJ.1 53 _ (by decide)]; rfl
    show wq _ _ _ _ _ [xI (A 53 (n_stands s (n_latest s 1 (s.2 34 (50 * u + k)))).toNat), xI ((F : Int) + ((p : Int) + 1)), xR 25] (s.1, A)
    rw [e53]
    refine n_iv (d := d) (vs := [xR 25, xI ((F : Int) + ((p : Int) + 1)), xI (n_tgt s u k)]) (r := []) nn152 (by simp) rfl nc152 (ng152 (s := (s.1, A)) hd ⟨by omega, by omega⟩) (fun r s' hr => ?_)
    rw [hr.1, hr.2]
    have i1 : ((F : Int) + ((p : Int) + 1)).toNat = F + p + 1 := by omega
    have i2 : ((F : Int) + ((p : Int) + 1) + 1).toNat = F + p + 2 := by omega
    show NP Z (d + 1) 151 152 [some (xR 25), some (xI u), some (xI F), some (xI ((k : Int) + 1)), o] [] (s.1, n_updA (n_updA A 54 ((F : Int) + ((p : Int) + 1)).toNat (n_by (n_shr (n_tgt s u k) 8))) 54 ((F : Int) + ((p : Int) + 1) + 1).toNat (n_by (n_tgt s u k))) Post
    rw [i1, i2]
    have hw : ∀ j, n_updA (n_updA A 54 (F + p + 1) (n_by (n_shr (n_tgt s u k) 8))) 54 (F + p + 2) (n_by (n_tgt s u k)) 54 j = if j = F + p + 2 then n_by (n_tgt s u k) else if j = F + p + 1 then n_by (n_shr (n_tgt s u k) 8) else A 54 j := fun j => by rw [n_ua_eq, n_ua_eq]
    have := ih (k + 1) (n_updA (n_updA A 54 (F + p + 1) (n_by (n_shr (n_tgt s u k) 8))) 54 (F + p + 2) (n_by (n_tgt s u k))) (by omega) ⟨fun a i ha => ?_, fun i hi => ?_⟩ ?_
    · rw [show n_Ly u F (k + 1) o = [some (xR 25), some (xI u), some (xI F), some (xI ((k : Int) + 1)), o] from by unfold n_Ly; rw [show ((k + 1 : Nat) : Int) = (k : Int) + 1 from by omega]] at this
      exact this
    · rw [n_ua_ne ha, n_ua_ne ha]
      exact hJ.1 a i ha
    · rw [hw, if_neg (by omega), if_neg (by omega)]
      exact hJ.2 i hi
    · refine n_IM_w (p0 := p) (x := n_tgt s u k) (J' := fun _ => True) hI hCZ (by omega) p3 (Or.inr (Or.inr p4)) (fun j j1 j2 => by rw [hw, if_neg j2, if_neg j1]) (n_tg_put ⟨by omega, by omega⟩ (by rw [hw, if_neg (by omega), if_pos rfl]) (by rw [hw, if_pos rfl])) (fun _ _ _ => trivial) (fun p' y hp' hT hex => ?_) (fun h => ?_) (fun _ _ => ⟨k, by omega, p1, rfl⟩)
      · obtain ⟨j, j1, j2⟩ := hex
        have hjk : j < k := by
          apply Classical.byContradiction
          intro hcn
          have : j = k := by omega
          rw [this, p1] at j2
          omega
        obtain ⟨j', t1, t2, t3⟩ := hT ⟨j, hjk, j2⟩
        exact ⟨j', by omega, t2, t3⟩
      · have p4 : n_cU s u p = 12 := p4
        omega
end N56
