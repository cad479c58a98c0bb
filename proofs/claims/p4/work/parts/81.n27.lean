/-! AN ATOM'S CODE -/
section N27
variable {Z : Nat → List Int32} {d : Nat} {s : nS}
/-- what an atom leaves: a number's three bytes, or a slot's two; one deeper -/
def n_atS (s : nS) (f : Int) : nS := if s.2 38 f.toNat = 0 then n_em (n_em (n_em s 0) (n_shr (s.2 39 f.toNat) 8)) (s.2 39 f.toNat) else n_em (n_em (n_slotS s f) 1) (if n_slotK s f < 0 then 0 else s.2 49 (n_slotK s f).toNat)
theorem n_em_A {x : Int} {a i : Nat} (h : a ≠ 47) : (n_em s x).2 a i = s.2 a i := by
  unfold n_em
  split
  · dsimp only
    rw [n_ua_ne h]
  · rfl
theorem n_em_S {x : Int} {k : Nat} (h : k ≠ 28 ∧ k ≠ 30) : (n_em s x).1 k = s.1 k := by
  unfold n_em
  split
  · dsimp only
    rw [n_u_ne h.1, n_u_ne h.2]
  · dsimp only
    rw [n_u_ne h.1]
theorem ng135 {f : Int} (hd : 6 ≤ d) (hf : 0 ≤ f ∧ f < 1300) (hk : n_rng (s.2 38 f.toNat)) (hv : s.2 38 f.toNat = 1 → n_rng (s.2 39 f.toNat)) (hs : ∀ i : Nat, (i : Int) < s.1 32 → n_rng (s.2 48 i)) (hn : 0 ≤ s.1 32 ∧ s.1 32 ≤ 120) (hb : s.1 28 = 0 ∨ s.1 28 = 1) (hz : 0 ≤ s.1 30 ∧ s.1 30 ≤ 260) : NG Z (d + 2) 135 [xR 25, xI f] s (fun r s' => r = none ∧ s' = (n_upd (n_atS s f).1 31 (s.1 31 + 1), (n_atS s f).2)) := by
  have h43 : ∀ (t : nS) (o : Option nV), t = n_atS s f → t.1 31 = s.1 31 → NP Z (d + 2) 135 43 [some (xR 25), some (xI f), o] [] t (fun r s' => r = none ∧ s' = (n_upd (n_atS s f).1 31 (s.1 31 + 1), (n_atS s f).2)) := by
    intro t o h1 h2
    refine n_at nb135_43 (by omega) rfl ⟨rfl, rfl, ?_⟩
    show (n_upd t.1 31 (t.1 31 + 1), t.2) = _
    rw [h2, h1]
  refine n_G_of (L := [some (xR 25), some (xI f), none]) (by rw [nl135]; exact Nat.le_of_ble_eq_true rfl) (by rw [nl135]; rfl) ?_
  refine n_at nb135_0 (by omega) rfl ⟨hf, hk, fun z => ?_, fun z => ?_⟩
  · refine n_at nb135_27 (by omega) rfl ?_
    refine n_iv (vs := [xR 25, xI f]) (r := []) nn138 (by simp) rfl nc138 (ng138 (by omega) hf hk hv hs hn hb) (fun r s' hr => ?_)
    rw [hr.1, hr.2]
    refine n_iv (vs := [xR 25, xI 1]) (r := []) nn136 (by simp) rfl nc136 (ng136 (s := n_slotS s f) (by omega) hz (n_T01 _)) (fun r s' hr => ?_)
    rw [hr.1, hr.2]
    have hb2 := n_em_b (s := n_slotS s f) (x := 1) hz
    refine n_iv (vs := [xR 25, xI (if n_slotK s f < 0 then 0 else s.2 49 (n_slotK s f).toNat)]) (r := []) nn136 (by simp) rfl nc136 (ng136 (by omega) hb2.1 hb2.2) (fun r s' hr => ?_)
    rw [hr.1, hr.2]
    refine h43 _ _ ?_ ?_
    · unfold n_atS
      rw [if_neg z]
    · rw [n_em_S (by decide), n_em_S (by decide)]
      rfl
  · refine n_iv (vs := [xR 25, xI 0]) (r := []) nn136 (by simp) rfl nc136 (ng136 (by omega) hz hb) (fun r s' hr => ?_)
    rw [hr.1, hr.2]
    have hb2 := n_em_b (s := s) (x := 0) hz
    have e39 : (n_em s 0).2 39 f.toNat = s.2 39 f.toNat := n_em_A (by decide)
    refine ⟨hf, ?_⟩
    show wq _ _ _ _ _ [xI ((n_em s 0).2 39 f.toNat), xR 25] _
    rw [e39]
    refine n_iv (vs := [xR 25, xI (s.2 39 f.toNat)]) (r := []) nn137 (by simp) rfl nc137 (ng137 (by omega) hb2.1 hb2.2) (fun r s' hr => ?_)
    rw [hr.1, hr.2]
    refine h43 _ _ ?_ ?_
    · unfold n_atS
      rw [if_pos z]
    · rw [n_em_S (by decide), n_em_S (by decide), n_em_S (by decide)]
end N27
