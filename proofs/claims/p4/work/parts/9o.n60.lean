section N60
variable {Z : Nat → List Int32} {d : Nat} {s T : nS} {m0 : Int} {L : Nat} {g : Nat → Int} {Ds : Nat → Nat → Int} {zs : Nat → Nat} {Post : nA → nS → Prop}
/-- all that copying needs -/
def n_IW (s T : nS) : Prop := n_lk s T ∧ (∀ i, n_rng (T.2 52 i))
theorem n_IU_CY (hM : n_MI s) (hW : n_IW s T) (h : n_IU T L g Ds zs) {k : Nat} (hk : k < L) : n_CY T (T.2 52 k).toNat (n_sum g k).toNat (g k).toNat (Ds k) (zs k) := by
  obtain ⟨ho, hg, hbg, hV, hmet⟩ := h.2.2.2.1 k hk
  have hgz := n_IU_g h hk
  have hsk := n_IU_s h (Nat.le_of_lt hk)
  have hsk1 := n_IU_s h (k := k + 1) (by omega)
  have e1 : n_sum g (k + 1) = n_sum g k + g k := rfl
  have h600 := h.2.2.1
  have hrg := hM.2.1.2.1
  have hc := hW.1
  have hL := h.1
  have h43 := h.2.1
  refine ⟨hV, by omega, by rw [← hg]; omega, by omega, fun j hj => ?_, h.2.2.2.2.2.2, by omega, fun i => by rw [hc.2 27 i (by decide), hc.2 28 i (by decide)]; exact (hrg i).1, fun i => by rw [hc.2 34 i (by decide)]; exact (hrg i).2.2.1, hW.2⟩
  obtain ⟨w1, w2, w3⟩ := hmet j hj
  have ei : (50 * T.2 52 k + (j : Int)).toNat = 50 * (T.2 52 k).toNat + j := by omega
  rw [ei] at w1 w2 w3
  refine ⟨w1, w3, ?_⟩
  unfold n_tgt
  have hst := n_lat_b (fun i => decide (T.2 52 i = n_latest T 1 (T.2 34 (50 * (T.2 52 k).toNat + j)))) (T.1 43).toNat
  have hst : n_stands T (n_latest T 1 (T.2 34 (50 * (T.2 52 k).toNat + j))) < ((T.1 43).toNat : Nat) := hst.2
  obtain ⟨m, hm⟩ : ∃ m : Nat, n_stands T (n_latest T 1 (T.2 34 (50 * (T.2 52 k).toNat + j))) = m := ⟨(n_stands T (n_latest T 1 (T.2 34 (50 * (T.2 52 k).toNat + j)))).toNat, by omega⟩
  rw [hm] at hst ⊢
  rw [Int.toNat_natCast, (h.2.2.2.1 m (by omega)).2.2.1]
  have := n_IU_s h (k := m) (by omega)
  omega
theorem n_l147c (hd : 6 ≤ d) (hM : n_MI s) (hW : n_IW s T) (h : n_IU T L g Ds zs) {al : Int} (h203 : ∀ (A : Nat → Nat → Int) (o : Option nV), (∀ a, a ≠ 54 → A a = T.2 a) → (∀ k, k < L → n_IM (A 54) (n_sum g k).toNat (n_cU T (T.2 52 k).toNat) (Ds k) (zs k) (fun _ => True) (n_TF T (T.2 52 k).toNat)) → NP Z (d + 2) 147 203 [some (xR 25), some (xI m0), some (xI al), o] [] (T.1, A) Post) : ∀ (q k : Nat) (A : Nat → Nat → Int), k + q = L → (∀ a, a ≠ 54 → A a = T.2 a) → (∀ k', k' < k → n_IM (A 54) (n_sum g k').toNat (n_cU T (T.2 52 k').toNat) (Ds k') (zs k') (fun _ => True) (n_TF T (T.2 52 k').toNat)) → NP Z (d + 2) 147 173 [some (xR 25), some (xI m0), some (xI al), some (xI k)] [] (T.1, A) Post := by
  have hL := h.1
  have h43 := h.2.1
  intro q
  induction q with
  | zero =>
    intro k A hk hA hI
    refine n_at nb147_173 (by omega) rfl ⟨⟨by omega, by omega⟩, by show n_rng (T.1 43); exact ⟨by omega, by omega⟩, fun _ => ?_, fun z => ?_⟩
    · exact h203 A _ hA (fun k' hk' => hI k' (by omega))
    · have z : ¬ T.1 43 ≤ (k : Int) := z
      omega
  | succ q ih =>
    intro k A hk hA hI
    have hkL : k < L := by omega
    obtain ⟨ho, hg, hbg, hV, hmet⟩ := h.2.2.2.1 k hkL
    have hgz := n_IU_g h hkL
    have hsk := n_IU_s h (Nat.le_of_lt hkL)
    have hY := n_IU_CY hM hW h hkL
    have hf : n_f54 T (T.1, A) := ⟨rfl, hA⟩
    refine n_at nb147_173 (by omega) rfl ⟨⟨by omega, by omega⟩, by show n_rng (T.1 43); exact ⟨by omega, by omega⟩, fun z => ?_, fun _ => ?_⟩
    · have z : T.1 43 ≤ (k : Int) := z
      omega
    refine ⟨⟨by omega, by omega⟩, ⟨by omega, by omega⟩, ?_⟩
    show wq _ _ _ _ _ [xI (A 53 ((k : Int).toNat)), xI (A 52 ((k : Int).toNat)), xR 25] (T.1, A)
    rw [hA 53 (by decide), hA 52 (by decide), Int.toNat_natCast, hbg]
    have ea : T.2 52 k = (((T.2 52 k).toNat : Nat) : Int) := by omega
    have eb : n_sum g k = (((n_sum g k).toNat : Nat) : Int) := by omega
    have hG := ng151 (Z := Z) (d := d) (by omega) (n_f_CY hf hY)
    rw [← ea, ← eb] at hG
    refine n_iv (d := d + 1) (vs := [xR 25, xI (T.2 52 k), xI (n_sum g k)]) (r := []) nn151 (by simp) rfl nc151 hG (fun r s' hr => ?_)
    obtain ⟨r1, r2, r3, r4⟩ := hr
    rw [r1]
    rw [n_f_cU hf, n_f_TF hf] at r4
    have hs' : s' = (T.1, s'.2) := Prod.ext r2 rfl
    have := ih (k + 1) s'.2 (by omega) (fun a ha => by rw [← hA a ha]; exact funext (fun i => r3.1 a i ha)) (fun k' hk' => ?_)
    · rw [← hs', show ((k + 1 : Nat) : Int) = (k : Int) + 1 from by omega] at this
      exact this
    · by_cases hkk : k' = k
      · rw [hkk]
        exact r4
      · have hY' := n_IU_CY hM hW h (k := k') (by omega)
        have hgz' := n_IU_g h (k := k') (by omega)
        have hs1 := n_sum_mono (g := g) (L := L) (fun k hk => (n_IU_g h hk).2.1) (k - (k' + 1)) (k' + 1) (by omega)
        rw [show k' + 1 + (k - (k' + 1)) = k from by omega] at hs1
        have e1 : n_sum g (k' + 1) = n_sum g k' + g k' := rfl
        have hsk' := n_IU_s h (k := k') (by omega)
        exact n_IM_fr (hI k' (by omega)) (n_CY_CZ hY').1 (fun j hj => r3.2 _ (Or.inl (by omega)))
/-- the machine begins -/
theorem n_c203 (hd : 6 ≤ d) (hM : n_MI s) (hW : n_IW s T) (h : n_IU T L g Ds zs) {o : Option nV} {A : Nat → Nat → Int} (hA : ∀ a, a ≠ 54 → A a = T.2 a) (hI : ∀ k, k < L → n_IM (A 54) (n_sum g k).toNat (n_cU T (T.2 52 k).toNat) (Ds k) (zs k) (fun _ => True) (n_TF T (T.2 52 k).toNat)) : NP Z (d + 1) 147 203 [some (xR 25), some (xI m0), some (xI (n_sum g L)), o] [] (T.1, A) (n_LKP s) := by
  have hf : n_f54 T (T.1, A) := ⟨rfl, hA⟩
  refine n_at nb147_203 (by omega) rfl ?_
  refine n_iv (d := d) (vs := [xR 25]) (r := []) nn154 (by simp) rfl nc154 (ng154 (s := (n_upd T.1 46 (n_sum g L), A)) hd) (fun r s' hr => ?_)
  rw [hr.1, hr.2]
  show n_LKP s (some (n_sum g L)) (n_beg (n_upd T.1 46 (n_sum g L), A))
  have hc := hW.1
  have ef : ∀ k, ¬ (k = 0 ∨ k = 4 ∨ k = 43 ∨ (46 ≤ k ∧ k ≤ 53)) → (n_beg (n_upd T.1 46 (n_sum g L), A)).1 k = s.1 k := fun k hk => by
    show n_upd (n_upd (n_upd (n_upd (n_upd (n_upd (n_upd T.1 46 _) 48 1) 49 0) 50 0) 51 0) 52 0) 53 0 k = _
    rw [n_u_ne (by omega), n_u_ne (by omega), n_u_ne (by omega), n_u_ne (by omega), n_u_ne (by omega), n_u_ne (by omega), n_u_ne (by omega)]
    exact hc.1 k (by omega)
  have ea : ∀ a i, ¬ (a = 52 ∨ a = 53 ∨ a = 54) → (n_beg (n_upd T.1 46 (n_sum g L), A)).2 a i = s.2 a i := fun a i ha => by
    show A a i = _
    rw [hA a (by omega)]
    exact hc.2 a i (by omega)
  obtain ⟨⟨a1, a2, a3, a4⟩, hU, hX⟩ := hM
  have hI' : ∀ k, k < L → n_IM ((T.1, A).2 54) (n_sum g k).toNat (n_cU (T.1, A) ((T.1, A).2 52 k).toNat) (Ds k) (zs k) (fun _ => True) (n_TF (T.1, A) ((T.1, A).2 52 k).toNat) := fun k hk => by
    rw [n_f_cU hf, n_f_TF hf]
    show n_IM (A 54) (n_sum g k).toNat (n_cU T (A 52 k).toNat) (Ds k) (zs k) (fun _ => True) (n_TF T (A 52 k).toNat)
    rw [hA 52 (by decide)]
    exact hI k hk
  have hIU := n_f_IU hf h
  have hIV : n_IV (n_beg (n_upd T.1 46 (n_sum g L), A)) (n_iD L g Ds) (n_iK (T.1, A) L g) := n_mkIV hIU rfl (fun _ => rfl) hI'
  have hL := h.1
  have hg0 := n_IU_g h (k := 0) (by omega)
  have hD0 : n_iD L g Ds 0 = 0 := by
    have := n_iD_at h (k := 0) (p := 0) (by omega) (by omega)
    have e : (n_sum g 0).toNat + 0 = 0 := rfl
    rw [e] at this
    rw [this]
    obtain ⟨-, -, -, ⟨-, -, c3, -⟩, -⟩ := h.2.2.2.1 0 (by omega)
    rw [c3]
    exact h.2.2.2.2.2.1
  have hK0 : n_iK (T.1, A) L g 0 = false := by
    have := n_iK_at hIU (k := 0) (p := 0) (by omega) (by omega)
    have e : (n_sum g 0).toNat + 0 = 0 := rfl
    rw [e] at this
    rw [this]
    refine decide_eq_false (fun h1 => ?_)
    have h2 := hIU.2.2.2.2.1
    rw [h2] at h1
    exact absurd h1 (by decide)
  have hs1 := n_sum_mono (g := g) (L := L) (fun k hk => (n_IU_g h hk).2.1) L 0 (by omega)
  rw [show 0 + L = L from by omega] at hs1
  have e00 : n_sum g 0 = 0 := rfl
  obtain ⟨D0, K0, -, hRS0, -⟩ := hX.2
  refine ⟨⟨⟨by rw [ef 1 (by decide)]; exact a1, fun i => by rw [ea 26 i (by decide)]; exact a2 i, fun i hi => ?_, fun i => by rw [ea 36 i (by decide)]; exact a4 i⟩, n_UI_fr hU (ef 2 (by decide)) (fun a i ha => ea a i (by omega)), fun i => ?_, n_iD L g Ds, n_iK (T.1, A) L g, hIV, ?_, fun _ => ⟨hD0, hK0⟩⟩, ef 1 (by decide), ef 3 (by decide), funext (fun i => ea 26 i (by decide))⟩
  · rw [ef 1 (by decide)] at hi
    rw [ea 26 i (by decide)]
    exact a3 i hi
  · show n_rng (A 52 i)
    rw [hA 52 (by decide)]
    exact hW.2 i
  · refine ⟨⟨by show (0 : Int) ≤ 0; decide, by show (0 : Int) ≤ 120; decide⟩, fun i => ?_, ⟨by show -2147483648 ≤ (1 : Int); decide, by show (1 : Int) < 2147483648; decide⟩, fun _ => ⟨⟨by show (0 : Int) ≤ 0; decide, by show (0 : Int) < n_sum g L; omega⟩, ?_, ?_, by show (0 : Int) ≤ 0; decide, ⟨by show (0 : Int) ≤ 0; decide, by show (0 : Int) ≤ 24; decide⟩, fun hk => ?_, fun i hi => ?_⟩⟩
    · rw [ea 55 i (by decide)]
      exact hRS0.2.1 i
    · show 0 ≤ n_iD L g Ds 0
      rw [hD0]
      decide
    · show (0 : Int) = 0 + n_iD L g Ds 0
      rw [hD0]
      rfl
    · have hk : n_iK (T.1, A) L g 0 = true := hk
      rw [hK0] at hk
      cases hk
    · have hi : (i : Int) < 0 := hi
      omega
end N60
