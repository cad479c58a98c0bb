section N34
variable {Z : Nat → List Int32} {d : Nat} {s : nS} {u : Int}
def n_MP (s : nS) (u : Int) (r : nA) (s' : nS) : Prop := n_OI s' ∧ n_OM s s' ∧ (∃ R, r = some R ∧ (R = 0 ∨ R = 2 ∨ R = 3) ∧ (R = 0 → ∀ k, 0 ≤ k → k < s.2 32 u.toNat → n_met s' u k))
theorem n_l149 (hd : 6 ≤ d) (hu : 0 ≤ u ∧ u < 16) (hun : 0 ≤ s.1 2 ∧ s.1 2 ≤ 16) (hs : ∀ i, n_rng (s.2 27 i) ∧ n_rng (s.2 28 i)) (hn : ∀ i, n_rng (s.2 34 i)) (hp : ∀ i, n_rng (s.2 29 i)) (hfx : 0 ≤ s.2 32 u.toNat ∧ s.2 32 u.toNat ≤ 50) (hat : ∀ k, 0 ≤ k → k < s.2 32 u.toNat → 0 ≤ s.2 33 (50 * u + k).toNat ∧ s.2 33 (50 * u + k).toNat ≤ 197) : ∀ (q : Nat) (t : nS) (k : Int) (o : Option nV), 0 ≤ k → k + q = s.2 32 u.toNat → n_OI t → n_OM s t → (∀ k', 0 ≤ k' → k' < k → n_met t u k') → NP Z (d + 1) 149 2 [some (xR 25), some (xI u), some (xI k), o] [] t (fun r s' => n_MP s u r s') := by
  intro q
  induction q with
  | zero =>
    intro t k o h0 hk hO hM hm
    have e32 : t.2 32 u.toNat = s.2 32 u.toNat := hM.2.1 32 _ (by decide)
    refine n_at nb149_2 (by omega) rfl ⟨⟨hu.1, hu.2⟩, ⟨by omega, by omega⟩, ⟨by omega, by omega⟩, fun _ => ?_, fun z => by omega⟩
    exact n_at nb149_108 (by omega) rfl ⟨hO, hM, 0, rfl, Or.inl rfl, fun _ k' h1 h2 => hm k' h1 (by omega)⟩
  | succ q ih =>
    intro t k o h0 hk hO hM hm
    have e32 : t.2 32 u.toNat = s.2 32 u.toNat := hM.2.1 32 _ (by decide)
    have e2 : t.1 2 = s.1 2 := hM.1 2 (by decide)
    have e33 := hM.2.1 33 (50 * u + k).toNat (by decide)
    have hat' := hat k h0 (by omega)
    refine n_at nb149_2 (by omega) rfl ⟨⟨hu.1, hu.2⟩, ⟨by omega, by omega⟩, ⟨by omega, by omega⟩, fun z => by omega, fun _ => ⟨⟨by omega, by omega⟩, ?_⟩⟩
    refine n_iv (vs := [xR 25, xI 1, xI (t.2 34 (50 * u + k).toNat)]) (r := []) nn148 (by simp) rfl nc148 (ng148 (s := t) hd ⟨by decide, by decide⟩ (by rw [hM.2.1 34 _ (by decide)]; exact hn _) (fun i => by rw [hM.2.1 27 _ (by decide), hM.2.1 28 _ (by decide)]; exact hs i) (by rw [e2]; exact hun)) (fun r s' hr => ?_)
    rw [hr.1, hr.2]
    have hfb := n_lat_b (fun i => decide (t.2 27 i = 1 ∧ t.2 28 i = t.2 34 (50 * u + k).toNat)) (t.1 2).toNat
    have hfe : n_lat (fun i => decide (t.2 27 i = 1 ∧ t.2 28 i = t.2 34 (50 * u + k).toNat)) (t.1 2).toNat = n_latest t 1 (t.2 34 (50 * u + k).toNat) := rfl
    rw [hfe] at hfb
    have hfp := n_lat_p (fun i => decide (t.2 27 i = 1 ∧ t.2 28 i = t.2 34 (50 * u + k).toNat)) (t.1 2).toNat
    rw [hfe] at hfp
    have hmet : ∀ t', n_OM t t' → 0 ≤ n_latest t 1 (t.2 34 (50 * u + k).toNat) → t.2 31 (200 * u + t.2 33 (50 * u + k).toNat + 2).toNat % 256 = t.2 29 (n_latest t 1 (t.2 34 (50 * u + k).toNat)).toNat → 0 ≤ n_stands t' (n_latest t 1 (t.2 34 (50 * u + k).toNat)) → n_met t' u k := by
      intro t' ⟨h1, h2, h3, h4, h5⟩ a1 a2 a3
      have el : ∀ w v, n_latest t' w v = n_latest t w v := fun w v => by
        unfold n_latest
        rw [h1 2 (by decide)]
        refine n_lat_cg _ (fun i _ => ?_)
        rw [h2 27 i (by decide), h2 28 i (by decide)]
      unfold n_met
      rw [el, h2 34 _ (by decide), h2 33 _ (by decide), h2 31 _ (by decide), h2 29 _ (by decide)]
      exact ⟨a1, a2, a3⟩
    generalize n_latest t 1 (t.2 34 (50 * u + k).toNat) = f at hfb hmet hfp
    clear hfe
    have h102 : ∀ t', n_OI t' → n_OM t t' → n_met t' u k → NP Z (d + 1) 149 102 [some (xR 25), some (xI u), some (xI k), some (xI f)] [] t' (fun r s' => n_MP s u r s') := by
      intro t' hO' hM' hk'
      refine n_at nb149_102 (by omega) rfl ?_
      refine ih t' (k + 1) _ (by omega) (by omega) hO' (n_OM_tr hM hM') (fun k' g1 g2 => ?_)
      by_cases hq : k' = k
      · rw [hq]; exact hk'
      · exact n_OM_met hM' (hm k' g1 (by omega))
    refine ⟨⟨by omega, by omega⟩, fun z => ?_, fun _ => ⟨hO, hM, 2, rfl, by decide, fun h => absurd h (by decide)⟩⟩
    refine n_at nb149_35 (by omega) rfl ⟨⟨by omega, by omega⟩, ⟨by omega, by omega⟩, ⟨by omega, by omega⟩, ⟨?_, ?_⟩, by rw [hM.2.1 29 _ (by decide)]; exact hp _, fun z2 => ?_, fun _ => ⟨hO, hM, 3, rfl, by decide, fun h => absurd h (by decide)⟩⟩
    · show _ ≤ t.2 31 _ % 256; omega
    · show t.2 31 _ % 256 < _; omega
    refine n_at nb149_74 (by omega) rfl ?_
    refine n_iv (vs := [xR 25, xI f]) (r := []) nn150 (by simp) rfl nc150 (ng150 (s := t) hd ⟨by omega, by omega⟩ hO.2.2.2 hO.1) (fun r s' hr => ?_)
    rw [hr.1, hr.2]
    have hsb := n_lat_b (fun i => decide (t.2 52 i = f)) (t.1 43).toNat
    have hse : n_lat (fun i => decide (t.2 52 i = f)) (t.1 43).toNat = n_stands t f := rfl
    rw [hse] at hsb
    have hO1 := hO.1
    refine ⟨⟨by omega, by omega⟩, fun z3 => ?_, fun z3 => ?_⟩
    · exact h102 t hO ⟨fun _ _ => rfl, fun _ _ _ => rfl, Int.le_refl _, fun _ _ => rfl, fun _ h => h⟩ (hmet t ⟨fun _ _ => rfl, fun _ _ _ => rfl, Int.le_refl _, fun _ _ => rfl, fun _ h => h⟩ z z2 z3)
    · obtain ⟨g1, g2, g3⟩ := n_OI_ord hO (by omega) ⟨z, by omega⟩ (fun h2 => by rw [(of_decide_eq_true (hfp z)).1] at h2; exact absurd h2 (by decide)) (by omega)
      refine ⟨⟨hO1.1, g1⟩, ?_⟩
      refine h102 (n_ord t f) g2 g3 (hmet _ g3 z z2 ?_)
      rw [n_ord_st hO1.1, if_pos rfl]
      exact hO1.1
theorem ng149 (hd : 6 ≤ d) (hu : 0 ≤ u ∧ u < 16) (hun : 0 ≤ s.1 2 ∧ s.1 2 ≤ 16) (hs : ∀ i, n_rng (s.2 27 i) ∧ n_rng (s.2 28 i)) (hn : ∀ i, n_rng (s.2 34 i)) (hp : ∀ i, n_rng (s.2 29 i)) (hfx : 0 ≤ s.2 32 u.toNat ∧ s.2 32 u.toNat ≤ 50) (hat : ∀ k, 0 ≤ k → k < s.2 32 u.toNat → 0 ≤ s.2 33 (50 * u + k).toNat ∧ s.2 33 (50 * u + k).toNat ≤ 197) (hO : n_OI s) : NG Z (d + 1) 149 [xR 25, xI u] s (fun r s' => n_MP s u r s') := by
  refine n_G_of (L := [some (xR 25), some (xI u), none, none]) (by rw [nl149]; exact Nat.le_of_ble_eq_true rfl) (by rw [nl149]; rfl) ?_
  refine n_at nb149_0 (by omega) rfl ?_
  exact n_l149 hd hu hun hs hn hp hfx hat (s.2 32 u.toNat).toNat s 0 none (by omega) (by omega) hO ⟨fun _ _ => rfl, fun _ _ _ => rfl, Int.le_refl _, fun _ _ => rfl, fun _ h => h⟩ (fun k' h1 h2 => by omega)
end N34
