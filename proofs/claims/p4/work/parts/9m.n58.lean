/-! THE IMAGE IS VALID -/
def n_sum (g : Nat → Int) : Nat → Int
  | 0 => 0
  | k + 1 => n_sum g k + g k
theorem n_sum_mono {g : Nat → Int} {L : Nat} (h : ∀ k, k < L → 1 ≤ g k) : ∀ (j k : Nat), k + j ≤ L → n_sum g k + j ≤ n_sum g (k + j)
  | 0, k, _ => by show n_sum g k + ((0 : Nat) : Int) ≤ n_sum g k; omega
  | j + 1, k, hj => by
    have := n_sum_mono h j k (by omega)
    have h1 := h (k + j) (by omega)
    show n_sum g k + ((j + 1 : Nat) : Int) ≤ n_sum g (k + j) + g (k + j)
    omega
theorem n_lat_eq {P : Nat → Bool} {k : Nat} (hk : P k = true) : ∀ L : Nat, k < L → (∀ k', k < k' → k' < L → P k' = false) → n_lat P L = k
  | 0, h, _ => absurd h (by omega)
  | L + 1, h, h2 => by
    unfold n_lat
    by_cases hl : k = L
    · subst hl
      rw [if_pos hk]
    · rw [h2 L (by omega) (by omega), if_neg (by decide)]
      exact n_lat_eq hk L (by omega) (fun k' a b => h2 k' a (by omega))
theorem n_lat_max {P : Nat → Bool} : ∀ (L k : Nat), n_lat P L < k → k < L → P k = false
  | 0, k, _, h => absurd h (by omega)
  | L + 1, k, h1, h2 => by
    unfold n_lat at h1
    split at h1
    · omega
    · rename_i hp
      by_cases hk : k = L
      · subst hk
        cases hq : P k
        · rfl
        · exact absurd hq hp
      · exact n_lat_max L k h1 (by omega)
theorem n_pl_tg {s : nS} {x : Nat} : n_pl s ((x : Int) + 1) = n_tg (s.2 54) (x + 1) := by
  unfold n_pl n_tg
  rw [show ((x : Int) + 1).toNat = x + 1 from by omega, show ((x : Int) + 1 + 1).toNat = x + 1 + 1 from by omega]
/-- the units in the image -/
def n_IU (t : nS) (L : Nat) (g : Nat → Int) (Ds : Nat → Nat → Int) (zs : Nat → Nat) : Prop := (1 ≤ L ∧ L ≤ 16) ∧ t.1 43 = (L : Int) ∧ n_sum g L ≤ 600 ∧ (∀ k, k < L → (0 ≤ t.2 52 k ∧ t.2 52 k < 16) ∧ g k = t.2 30 (t.2 52 k).toNat ∧ t.2 53 k = n_sum g k ∧ n_UV t (t.2 52 k).toNat (Ds k) (zs k) ∧ (∀ j : Nat, (j : Int) < t.2 32 (t.2 52 k).toNat → n_met t (t.2 52 k) j)) ∧ t.2 27 (t.2 52 0).toNat = 0 ∧ t.2 29 (t.2 52 0).toNat = 0 ∧ (0 ≤ t.1 2 ∧ t.1 2 ≤ 16)
def n_iD (L : Nat) (g : Nat → Int) (Ds : Nat → Nat → Int) (x : Nat) : Int := Ds (n_lat (fun k => decide (n_sum g k ≤ (x : Int))) L).toNat (x - (n_sum g (n_lat (fun k => decide (n_sum g k ≤ (x : Int))) L).toNat).toNat)
def n_iK (t : nS) (L : Nat) (g : Nat → Int) (x : Nat) : Bool := decide (t.2 27 (t.2 52 (n_lat (fun k => decide (n_sum g k ≤ (x : Int))) L).toNat).toNat = 1)
section N58
variable {t t' : nS} {L : Nat} {g : Nat → Int} {Ds : Nat → Nat → Int} {zs : Nat → Nat}
theorem n_IU_g (h : n_IU t L g Ds zs) {k : Nat} (hk : k < L) : (g k = (zs k : Int) + 1 ∨ g k = (zs k : Int) + 2) ∧ 1 ≤ g k ∧ g k ≤ 200 := by
  obtain ⟨-, e, -, ⟨-, -, -, -, b5, b6, -⟩, -⟩ := h.2.2.2.1 k hk
  omega
theorem n_IU_s (h : n_IU t L g Ds zs) {k : Nat} (hk : k ≤ L) : 0 ≤ n_sum g k ∧ n_sum g k ≤ n_sum g L := by
  have h1 := n_sum_mono (g := g) (L := L) (fun k hk => (n_IU_g h hk).2.1) k 0 (by omega)
  have h2 := n_sum_mono (g := g) (L := L) (fun k hk => (n_IU_g h hk).2.1) (L - k) k (by omega)
  rw [show 0 + k = k from by omega] at h1
  rw [show k + (L - k) = L from by omega] at h2
  have : n_sum g 0 = 0 := rfl
  omega
theorem n_reg (h : n_IU t L g Ds zs) {k p : Nat} (hk : k < L) (hp : (p : Int) < g k) : n_lat (fun j => decide (n_sum g j ≤ (((n_sum g k).toNat + p : Nat) : Int))) L = k := by
  have hs := n_IU_s h (Nat.le_of_lt hk)
  refine n_lat_eq (decide_eq_true ?_) L hk (fun k' h1 h2 => decide_eq_false ?_)
  · omega
  · have h3 := n_sum_mono (g := g) (L := L) (fun k hk => (n_IU_g h hk).2.1) (k' - (k + 1)) (k + 1) (by omega)
    rw [show k + 1 + (k' - (k + 1)) = k' from by omega] at h3
    have : n_sum g (k + 1) = n_sum g k + g k := rfl
    omega
theorem n_iD_at (h : n_IU t L g Ds zs) {k p : Nat} (hk : k < L) (hp : (p : Int) < g k) : n_iD L g Ds ((n_sum g k).toNat + p) = Ds k p := by
  unfold n_iD
  rw [n_reg h hk hp, Int.toNat_natCast, show (n_sum g k).toNat + p - (n_sum g k).toNat = p from by omega]
theorem n_iK_at (h : n_IU t L g Ds zs) {k p : Nat} (hk : k < L) (hp : (p : Int) < g k) : n_iK t L g ((n_sum g k).toNat + p) = decide (t.2 27 (t.2 52 k).toNat = 1) := by
  unfold n_iK
  rw [n_reg h hk hp, Int.toNat_natCast]
theorem n_mkIV (h : n_IU t L g Ds zs) (h46 : t'.1 46 = n_sum g L) (h54 : ∀ i, t'.2 54 i = t.2 54 i) (hI : ∀ k, k < L → n_IM (t.2 54) (n_sum g k).toNat (n_cU t (t.2 52 k).toNat) (Ds k) (zs k) (fun _ => True) (n_TF t (t.2 52 k).toNat)) : n_IV t' (n_iD L g Ds) (n_iK t L g) := by
  have hall := n_IU_s h (Nat.le_refl L)
  refine ⟨by rw [h46]; exact ⟨hall.1, h.2.2.1⟩, fun x hx hDx => ?_⟩
  rw [h46] at hx
  have e54 : t'.2 54 = t.2 54 := funext h54
  have L1 := h.1
  have hb := n_lat_b (fun k => decide (n_sum g k ≤ (x : Int))) L
  have h0 : 0 ≤ n_lat (fun k => decide (n_sum g k ≤ (x : Int))) L := by
    apply Classical.byContradiction
    intro hc
    have := n_lat_max (P := fun k => decide (n_sum g k ≤ (x : Int))) L 0 (by omega) (by omega)
    have h00 : n_sum g 0 = 0 := rfl
    have := of_decide_eq_false this
    omega
  have hP := of_decide_eq_true (n_lat_p (fun k => decide (n_sum g k ≤ (x : Int))) L h0)
  obtain ⟨k, hk⟩ : ∃ k : Nat, n_lat (fun k => decide (n_sum g k ≤ (x : Int))) L = k := ⟨(n_lat (fun k => decide (n_sum g k ≤ (x : Int))) L).toNat, by omega⟩
  have hmax := fun k' => n_lat_max (P := fun k => decide (n_sum g k ≤ (x : Int))) L k'
  rw [hk] at hb hP hmax
  rw [Int.toNat_natCast] at hP
  have hkL : k < L := by omega
  have hsk := n_IU_s h (Nat.le_of_lt hkL)
  obtain ⟨p, hp⟩ : ∃ p : Nat, x = (n_sum g k).toNat + p := ⟨x - (n_sum g k).toNat, by omega⟩
  have hpg : (p : Int) < g k := by
    have e1 : n_sum g (k + 1) = n_sum g k + g k := rfl
    by_cases hk1 : k + 1 < L
    · have := of_decide_eq_false (hmax (k + 1) (by omega) hk1)
      omega
    · have : k + 1 = L := by omega
      rw [← this, e1] at hx
      omega
  subst hp
  rw [n_iD_at h hkL hpg] at hDx
  obtain ⟨ho, hg, hbg, hV, hmet⟩ := h.2.2.2.1 k hkL
  have hgz := n_IU_g h hkL
  obtain ⟨b1, b2, b3, b4, b5, b6, b7⟩ := hV
  have hpz : p ≤ zs k := by
    apply Classical.byContradiction
    intro hc
    have := b1.2.1 p (by omega)
    omega
  obtain ⟨i1, i2, i3, i4⟩ := hI k hkL p hpz hDx
  have hsk1 := n_IU_s h (k := k + 1) (by omega)
  have e1 : n_sum g (k + 1) = n_sum g k + g k := rfl
  have hDa : ∀ i : Nat, p + i ≤ zs k → n_iD L g Ds ((n_sum g k).toNat + p + i) = Ds k (p + i) := fun i hi => by rw [show (n_sum g k).toNat + p + i = (n_sum g k).toNat + (p + i) from by omega]; exact n_iD_at h hkL (by omega)
  have hKa : ∀ i : Nat, p + i ≤ zs k → n_iK t L g ((n_sum g k).toNat + p + i) = n_iK t L g ((n_sum g k).toNat + p) := fun i hi => by rw [show (n_sum g k).toNat + p + i = (n_sum g k).toNat + (p + i) from by omega, n_iK_at h hkL (by omega), n_iK_at h hkL hpg]
  have hDp := n_iD_at h hkL hpg
  have hKp := n_iK_at h hkL hpg
  unfold n_IVp
  rw [h46, e54, n_pl_tg, e54, i1, hDp]
  by_cases hz : p = zs k
  · rcases b5 with b5 | b5
    · right; right; right; right; right; right; right; right; right; right
      rw [hz]
      exact b5.2.1
    · right; right; right; right; right; right; right; right; right; left
      refine ⟨by rw [hz]; exact b5.2.1, by omega, by rw [hz, b4]; have := b1.1; omega, ?_⟩
      rw [hKp]
      exact decide_eq_true b5.1
  have hcv := b1.2.2 p (by omega) hDx
  unfold n_cv at hcv
  rcases hcv with q | q | q | q | q | q | q | q | q
  · left
    have q1 : n_cU t (t.2 52 k).toNat p = 0 := q.1
    exact ⟨q1, by omega, by rw [hDa 3 (by omega)]; omega, hKa 3 (by omega)⟩
  · right; left
    have q1 : n_cU t (t.2 52 k).toNat p = 1 := q.1
    have q2 : n_cU t (t.2 52 k).toNat (p + 1) % 256 < Ds k p := q.2.2.2.2
    exact ⟨q1, by omega, by rw [i2 (Or.inl q1)]; exact q2, by rw [hDa 2 (by omega)]; omega, hKa 2 (by omega)⟩
  · right; right; left
    have q1 : 2 ≤ n_cU t (t.2 52 k).toNat p ∧ n_cU t (t.2 52 k).toNat p ≤ 6 := q.1
    exact ⟨q1, by omega, by omega, by rw [hDa 1 (by omega)]; omega, hKa 1 (by omega)⟩
  · right; right; right; left
    have q1 : n_cU t (t.2 52 k).toNat p = 7 := q.1
    have q2 : (0 ≤ n_tg (n_cU t (t.2 52 k).toNat) (p + 1) ∧ n_tg (n_cU t (t.2 52 k).toNat) (p + 1) ≤ zs k) ∧ Ds k (n_tg (n_cU t (t.2 52 k).toNat) (p + 1)).toNat = Ds k p := by
      rcases q.2.2.2.2.2 with q | q
      · exact q.elim
      · exact q
    rw [i3 (Or.inl q1) trivial]
    have et : (((n_sum g k).toNat : Int) + n_tg (n_cU t (t.2 52 k).toNat) (p + 1)).toNat = (n_sum g k).toNat + (n_tg (n_cU t (t.2 52 k).toNat) (p + 1)).toNat := by omega
    rw [et]
    refine ⟨q1, by omega, ⟨by omega, by omega⟩, ?_, ?_⟩
    · rw [n_iD_at h hkL (by omega)]
      exact q2.2
    · rw [n_iK_at h hkL (by omega), hKp]
  · right; right; right; right; left
    have q1 : n_cU t (t.2 52 k).toNat p = 8 := q.1
    have q2 : (0 ≤ n_tg (n_cU t (t.2 52 k).toNat) (p + 1) ∧ n_tg (n_cU t (t.2 52 k).toNat) (p + 1) ≤ zs k) ∧ Ds k (n_tg (n_cU t (t.2 52 k).toNat) (p + 1)).toNat = Ds k p - 1 := by
      rcases q.2.2.2.2.2.2 with q | q
      · exact q.elim
      · exact q
    rw [i3 (Or.inr q1) trivial]
    have et : (((n_sum g k).toNat : Int) + n_tg (n_cU t (t.2 52 k).toNat) (p + 1)).toNat = (n_sum g k).toNat + (n_tg (n_cU t (t.2 52 k).toNat) (p + 1)).toNat := by omega
    rw [et]
    refine ⟨q1, by omega, by omega, ⟨by rw [hDa 3 (by omega)]; omega, hKa 3 (by omega)⟩, ⟨by omega, by omega⟩, ?_, ?_⟩
    · rw [n_iD_at h hkL (by omega)]
      exact q2.2
    · rw [n_iK_at h hkL (by omega), hKp]
  · right; right; right; right; right; left
    have q1 : n_cU t (t.2 52 k).toNat p = 9 := q.1
    exact ⟨q1, by omega, by omega, by rw [hDa 1 (by omega)]; omega, hKa 1 (by omega)⟩
  · right; right; right; right; right; right; left
    have q1 : n_cU t (t.2 52 k).toNat p = 10 := q.1
    exact ⟨q1, by omega, by omega, by rw [hDa 1 (by omega)]; omega, hKa 1 (by omega)⟩
  · right; right; right; right; right; right; right; left
    have q1 : n_cU t (t.2 52 k).toNat p = 11 := q.1
    have q2 : n_cU t (t.2 52 k).toNat (p + 1) % 256 < Ds k p := q.2.2.2.2.2
    exact ⟨q1, by omega, by omega, by rw [i2 (Or.inr q1)]; exact q2, by rw [hDa 2 (by omega)]; omega, hKa 2 (by omega)⟩
  · right; right; right; right; right; right; right; right; left
    have q1 : n_cU t (t.2 52 k).toNat p = 12 := q.1
    have q3 : Ds k (p + 4) = Ds k p + 1 - n_cU t (t.2 52 k).toNat (p + 3) % 256 := q.2.2.1
    have q4 : n_cU t (t.2 52 k).toNat (p + 3) % 256 ≤ Ds k p := q.2.2.2.2.2.2.1
    obtain ⟨j1, j, j2, j3, j4⟩ := i4 q1
    obtain ⟨w1, w2, w3⟩ := hmet j j2
    have ei : (50 * t.2 52 k + (j : Int)).toNat = 50 * (t.2 52 k).toNat + j := by omega
    rw [ei] at w1 w2 w3
    rw [j1, j4]
    have hst : n_stands t (n_latest t 1 (t.2 34 (50 * (t.2 52 k).toNat + j))) < (L : Int) := by
      have := n_lat_b (fun i => decide (t.2 52 i = n_latest t 1 (t.2 34 (50 * (t.2 52 k).toNat + j)))) (t.1 43).toNat
      have : n_stands t (n_latest t 1 (t.2 34 (50 * (t.2 52 k).toNat + j))) < ((t.1 43).toNat : Nat) := this.2
      have := h.2.1
      omega
    have hsp : t.2 52 (n_stands t (n_latest t 1 (t.2 34 (50 * (t.2 52 k).toNat + j)))).toNat = n_latest t 1 (t.2 34 (50 * (t.2 52 k).toNat + j)) := of_decide_eq_true (n_lat_p (fun i => decide (t.2 52 i = n_latest t 1 (t.2 34 (50 * (t.2 52 k).toNat + j)))) (t.1 43).toNat w3)
    have hlp := (of_decide_eq_true (n_lat_p (fun i => decide (t.2 27 i = 1 ∧ t.2 28 i = t.2 34 (50 * (t.2 52 k).toNat + j))) (t.1 2).toNat w1)).1
    have hlp : t.2 27 (n_latest t 1 (t.2 34 (50 * (t.2 52 k).toNat + j))).toNat = 1 := hlp
    unfold n_tgt
    generalize hf : n_latest t 1 (t.2 34 (50 * (t.2 52 k).toNat + j)) = fl at w1 w2 w3 hst hsp hlp ⊢
    obtain ⟨m, hm⟩ : ∃ m : Nat, n_stands t fl = m := ⟨(n_stands t fl).toNat, by omega⟩
    rw [hm, Int.toNat_natCast] at hsp
    rw [hm, Int.toNat_natCast]
    have hmL : m < L := by omega
    obtain ⟨-, -, hbm, ⟨c1, -, c3, -⟩, -⟩ := h.2.2.2.1 m hmL
    have hgm := n_IU_g h hmL
    have hsm := n_IU_s h (Nat.le_of_lt hmL)
    have hsm1 := n_IU_s h (k := m + 1) (by omega)
    have e2 : n_sum g (m + 1) = n_sum g m + g m := rfl
    rw [hbm]
    have eq1 : (n_sum g m).toNat = (n_sum g m).toNat + 0 := by omega
    have hw2 : n_cU t (t.2 52 k).toNat (p + 3) % 256 = t.2 29 fl.toNat := by
      rw [← w2, j3, show (200 * t.2 52 k + ((p : Int) + 1) + 2).toNat = 200 * (t.2 52 k).toNat + (p + 3) from by omega]
      rfl
    refine ⟨q1, by omega, q4, ⟨by rw [hDa 4 (by omega)]; exact q3, hKa 4 (by omega)⟩, ⟨hsm.1, by omega⟩, ?_, ?_⟩
    · rw [eq1, n_iD_at h hmL (by omega), c3, hsp, hw2]
    · rw [eq1, n_iK_at h hmL (by omega), hsp]
      exact decide_eq_true hlp
end N58
