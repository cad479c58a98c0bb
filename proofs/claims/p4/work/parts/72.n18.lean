/-! MORE SMALL METHODS -/
section N18
variable {Z : Nat → List Int32} {d : Nat} {s : nS}
/-- the latest unit of a sort and a name -/
theorem n_l148 {w v : Int} (hd : 6 ≤ d) (hw : n_rng w) (hv : n_rng v) (hs : ∀ i, n_rng (s.2 27 i) ∧ n_rng (s.2 28 i)) : ∀ k : Nat, k ≤ 16 → NP Z d 148 7 [some (xR 25), some (xI w), some (xI v), some (xI ((k : Int) - 1))] [] s (fun r s' => r = some (n_lat (fun i => decide (s.2 27 i = w ∧ s.2 28 i = v)) k) ∧ s' = s) := by
  have h37 : ∀ k w' : Int, k = w' → NP Z d 148 37 [some (xR 25), some (xI w), some (xI v), some (xI k)] [] s (fun r s' => r = some w' ∧ s' = s) := fun k w' h => n_at nb148_37 hd rfl ⟨by rw [h], rfl⟩
  intro k
  induction k with
  | zero =>
    intro _
    exact n_at nb148_7 hd rfl ⟨⟨by decide, by decide⟩, fun _ => h37 _ _ rfl, fun z => absurd (by decide : ((0 : Nat) : Int) - 1 < 0) z⟩
  | succ k ih =>
    intro hk
    have e : ((k + 1 : Nat) : Int) - 1 = (k : Int) := by omega
    rw [e]
    have h31 : decide (s.2 27 k = w ∧ s.2 28 k = v) = false → NP Z d 148 31 [some (xR 25), some (xI w), some (xI v), some (xI (k : Int))] [] s (fun r s' => r = some (n_lat (fun i => decide (s.2 27 i = w ∧ s.2 28 i = v)) (k + 1)) ∧ s' = s) := fun h => by
      have e2 : n_lat (fun i => decide (s.2 27 i = w ∧ s.2 28 i = v)) (k + 1) = n_lat (fun i => decide (s.2 27 i = w ∧ s.2 28 i = v)) k := by
        show (if decide (s.2 27 k = w ∧ s.2 28 k = v) = true then _ else _) = _
        rw [h]
        rfl
      rw [e2]
      exact n_at nb148_31 hd rfl (ih (by omega))
    refine n_at nb148_7 hd rfl ⟨⟨by omega, by omega⟩, fun z => ?_, fun _ => ⟨⟨by omega, by omega⟩, (hs _).1, hw, fun z => h31 ?_, fun z => ⟨⟨by omega, by omega⟩, (hs _).2, hv, fun z2 => h37 _ _ ?_, fun z2 => h31 ?_⟩⟩⟩
    · omega
    · exact decide_eq_false (fun h => z h.1)
    · show (k : Int) = (if decide (s.2 27 k = w ∧ s.2 28 k = v) = true then _ else _)
      rw [if_pos (decide_eq_true ⟨z, z2⟩)]
    · exact decide_eq_false (fun h => z2 h.2)
def n_latest (s : nS) (w v : Int) : Int := n_lat (fun i => decide (s.2 27 i = w ∧ s.2 28 i = v)) (s.1 2).toNat
theorem ng148 {w v : Int} (hd : 6 ≤ d) (hw : n_rng w) (hv : n_rng v) (hs : ∀ i, n_rng (s.2 27 i) ∧ n_rng (s.2 28 i)) (hu : 0 ≤ s.1 2 ∧ s.1 2 ≤ 16) : NG Z d 148 [xR 25, xI w, xI v] s (fun r s' => r = some (n_latest s w v) ∧ s' = s) := by
  refine n_G_of (L := [some (xR 25), some (xI w), some (xI v), none]) (by rw [nl148]; exact Nat.le_of_ble_eq_true rfl) (by rw [nl148]; rfl) ?_
  refine n_at nb148_0 hd rfl ?_
  have := n_l148 (Z := Z) hd hw hv hs (s.1 2).toNat (by omega)
  rw [show (((s.1 2).toNat : Nat) : Int) - 1 = s.1 2 - 1 from by omega] at this
  exact this
/-- where a unit stands in the image's order -/
theorem n_l150 {u : Int} (hd : 6 ≤ d) (hu : n_rng u) (hs : ∀ i, n_rng (s.2 52 i)) : ∀ k : Nat, k ≤ 16 → NP Z d 150 7 [some (xR 25), some (xI u), some (xI ((k : Int) - 1))] [] s (fun r s' => r = some (n_lat (fun i => decide (s.2 52 i = u)) k) ∧ s' = s) := by
  have h27 : ∀ k w' : Int, k = w' → NP Z d 150 27 [some (xR 25), some (xI u), some (xI k)] [] s (fun r s' => r = some w' ∧ s' = s) := fun k w' h => n_at nb150_27 hd rfl ⟨by rw [h], rfl⟩
  intro k
  induction k with
  | zero =>
    intro _
    exact n_at nb150_7 hd rfl ⟨⟨by decide, by decide⟩, fun _ => h27 _ _ rfl, fun z => absurd (by decide : ((0 : Nat) : Int) - 1 < 0) z⟩
  | succ k ih =>
    intro hk
    have e : ((k + 1 : Nat) : Int) - 1 = (k : Int) := by omega
    rw [e]
    refine n_at nb150_7 hd rfl ⟨⟨by omega, by omega⟩, fun z => ?_, fun _ => ⟨⟨by omega, by omega⟩, hs _, hu, fun z => h27 _ _ ?_, fun z => ?_⟩⟩
    · omega
    · show (k : Int) = (if decide (s.2 52 k = u) = true then _ else _)
      have z : s.2 52 k = u := z
      rw [if_pos (decide_eq_true z)]
    · have z : ¬ s.2 52 k = u := z
      have e2 : n_lat (fun i => decide (s.2 52 i = u)) (k + 1) = n_lat (fun i => decide (s.2 52 i = u)) k := by
        show (if decide (s.2 52 k = u) = true then _ else _) = _
        rw [if_neg (fun h => z (of_decide_eq_true h))]
      rw [e2]
      exact ih (by omega)
def n_stands (s : nS) (u : Int) : Int := n_lat (fun i => decide (s.2 52 i = u)) (s.1 43).toNat
theorem ng150 {u : Int} (hd : 6 ≤ d) (hu : n_rng u) (hs : ∀ i, n_rng (s.2 52 i)) (hl : 0 ≤ s.1 43 ∧ s.1 43 ≤ 16) : NG Z d 150 [xR 25, xI u] s (fun r s' => r = some (n_stands s u) ∧ s' = s) := by
  refine n_G_of (L := [some (xR 25), some (xI u), none]) (by rw [nl150]; exact Nat.le_of_ble_eq_true rfl) (by rw [nl150]; rfl) ?_
  refine n_at nb150_0 hd rfl ?_
  have := n_l150 (Z := Z) hd hu hs (s.1 43).toNat (by omega)
  rw [show (((s.1 43).toNat : Nat) : Int) - 1 = s.1 43 - 1 from by omega] at this
  exact this
def n_sign (v : Int) : Int := if v = 43 then 2 else if v = 45 then 3 else if v = 42 then 4 else if v = 60 then 5 else if v = 61 then 6 else 0
theorem ng134 {v : Int} (hd : 6 ≤ d) (hv : n_rng v) : NG Z d 134 [xI v] s (fun r s' => r = some (n_sign v) ∧ s' = s) := by
  have h52 : ∀ y : Int, y = n_sign v → NP Z d 134 52 [some (xI v)] [xI y] s (fun r s' => r = some (n_sign v) ∧ s' = s) := fun y h => n_at nb134_52 hd rfl ⟨by rw [h], rfl⟩
  refine n_G_of (L := [some (xI v)]) (by rw [nl134]; exact Nat.le_of_ble_eq_true rfl) (by rw [nl134]; rfl) ?_
  refine n_at nb134_0 hd rfl ⟨hv, ⟨by decide, by decide⟩, fun z => ?_, fun z => h52 2 (by rw [z]; rfl)⟩
  refine n_at nb134_10 hd rfl ⟨hv, ⟨by decide, by decide⟩, fun z2 => ?_, fun z => h52 3 (by rw [z]; rfl)⟩
  refine n_at nb134_20 hd rfl ⟨hv, ⟨by decide, by decide⟩, fun z3 => ?_, fun z => h52 4 (by rw [z]; rfl)⟩
  refine n_at nb134_30 hd rfl ⟨hv, ⟨by decide, by decide⟩, fun z4 => ?_, fun z => h52 5 (by rw [z]; rfl)⟩
  refine n_at nb134_40 hd rfl ⟨hv, ⟨by decide, by decide⟩, fun z5 => ?_, fun z => h52 6 (by rw [z]; rfl)⟩
  refine n_at nb134_51 hd rfl (h52 0 ?_)
  unfold n_sign
  rw [if_neg z, if_neg z2, if_neg z3, if_neg z4, if_neg z5]
def n_wide (op : Int) : Int := if op = 0 ∨ op = 7 ∨ op = 8 then 3 else if op = 1 ∨ op = 11 ∨ op = 13 then 2 else if op = 12 then 4 else 1
theorem ng153 {v : Int} (hd : 6 ≤ d) (hv : n_rng v) : NG Z d 153 [xI v] s (fun r s' => r = some (n_wide v) ∧ s' = s) := by
  have h52 : ∀ y : Int, y = n_wide v → NP Z d 153 52 [some (xI v)] [xI y] s (fun r s' => r = some (n_wide v) ∧ s' = s) := fun y h => n_at nb153_52 hd rfl ⟨by rw [h], rfl⟩
  have h16 : (v = 0 ∨ v = 7 ∨ v = 8) → NP Z d 153 16 [some (xI v)] [] s (fun r s' => r = some (n_wide v) ∧ s' = s) := fun h => n_at nb153_16 hd rfl (h52 3 (by unfold n_wide; rw [if_pos h]))
  have h37 : ¬ (v = 0 ∨ v = 7 ∨ v = 8) → (v = 1 ∨ v = 11 ∨ v = 13) → NP Z d 153 37 [some (xI v)] [] s (fun r s' => r = some (n_wide v) ∧ s' = s) := fun h1 h => n_at nb153_37 hd rfl (h52 2 (by unfold n_wide; rw [if_neg h1, if_pos h]))
  refine n_G_of (L := [some (xI v)]) (by rw [nl153]; exact Nat.le_of_ble_eq_true rfl) (by rw [nl153]; rfl) ?_
  refine n_at nb153_0 hd rfl ⟨hv, fun z => h16 (Or.inl z), fun z1 => ⟨hv, ⟨by decide, by decide⟩, fun z => h16 (Or.inr (Or.inl z)), fun z2 => ⟨hv, ⟨by decide, by decide⟩, fun z3 => ?_, fun z => h16 (Or.inr (Or.inr z))⟩⟩⟩
  have hn : ¬ (v = 0 ∨ v = 7 ∨ v = 8) := by omega
  refine n_at nb153_20 hd rfl ⟨hv, ⟨by decide, by decide⟩, fun z => h37 hn (Or.inl z), fun z4 => ⟨hv, ⟨by decide, by decide⟩, fun z => h37 hn (Or.inr (Or.inl z)), fun z5 => ⟨hv, ⟨by decide, by decide⟩, fun z6 => ?_, fun z => h37 hn (Or.inr (Or.inr z))⟩⟩⟩
  have hn2 : ¬ (v = 1 ∨ v = 11 ∨ v = 13) := by omega
  refine n_at nb153_41 hd rfl ⟨hv, ⟨by decide, by decide⟩, fun z => ?_, fun z => h52 4 ?_⟩
  · refine n_at nb153_51 hd rfl (h52 1 ?_)
    unfold n_wide
    rw [if_neg hn, if_neg hn2, if_neg z]
  · unfold n_wide
    rw [if_neg hn, if_neg hn2, if_pos z]
theorem ng127 {v sl : Int} (hd : 6 ≤ d) (hn : 0 ≤ s.1 32 ∧ s.1 32 < 120) : NG Z d 127 [xR 25, xI v, xI sl] s (fun r s' => r = none ∧ s' = (n_upd s.1 32 (s.1 32 + 1), n_updA (n_updA s.2 48 (s.1 32).toNat v) 49 (s.1 32).toNat sl)) := by
  refine n_G_of (L := [some (xR 25), some (xI v), some (xI sl)]) (by rw [nl127]; exact Nat.le_of_ble_eq_true rfl) (by rw [nl127]; rfl) ?_
  exact n_at nb127_0 hd rfl ⟨hn, hn, rfl, rfl, rfl⟩
theorem ng129 {t x y : Int} (hd : 6 ≤ d) (hn : 0 ≤ s.1 29 ∧ s.1 29 < 300) : NG Z d 129 [xR 25, xI t, xI x, xI y] s (fun r s' => r = none ∧ s' = (n_upd s.1 29 (s.1 29 + 1), n_updA (n_updA (n_updA s.2 44 (s.1 29).toNat t) 45 (s.1 29).toNat x) 46 (s.1 29).toNat y)) := by
  refine n_G_of (L := [some (xR 25), some (xI t), some (xI x), some (xI y)]) (by rw [nl129]; exact Nat.le_of_ble_eq_true rfl) (by rw [nl129]; rfl) ?_
  exact n_at nb129_0 hd rfl ⟨hn, hn, hn, rfl, rfl, rfl⟩
theorem ng136 {x : Int} (hd : 6 ≤ d) (hn : 0 ≤ s.1 30 ∧ s.1 30 ≤ 260) (hb : s.1 28 = 0 ∨ s.1 28 = 1) : NG Z d 136 [xR 25, xI x] s (fun r s' => r = none ∧ s' = n_em s x) := by
  have h54 : ∀ (t : nS) (q : Bool), (n_upd t.1 28 (n_T q), t.2) = n_em s x → NP Z d 136 54 [some (xR 25), some (xI x)] [xI (n_T q), xR 25] t (fun r s' => r = none ∧ s' = n_em s x) := fun t q h => n_at nb136_54 hd rfl ⟨n_T01 q, rfl, rfl, h⟩
  have h31 : ∀ t : nS, (t.1 28 = 0 ∨ t.1 28 = 1) → (0 ≤ t.1 30 ∧ t.1 30 ≤ 1000) → (n_upd t.1 28 (n_T (decide (¬ t.1 28 = 0 ∨ 200 < t.1 30))), t.2) = n_em s x → NP Z d 136 31 [some (xR 25), some (xI x)] [] t (fun r s' => r = none ∧ s' = n_em s x) := by
    intro t h1 h2 h3
    have h49 : (¬ t.1 28 = 0 ∨ 200 < t.1 30) → NP Z d 136 49 [some (xR 25), some (xI x)] [xR 25] t (fun r s' => r = none ∧ s' = n_em s x) := fun h => n_at nb136_49 hd rfl (h54 t true (by rw [decide_eq_true h] at h3; exact h3))
    have h53 : ¬ (¬ t.1 28 = 0 ∨ 200 < t.1 30) → NP Z d 136 53 [some (xR 25), some (xI x)] [xR 25] t (fun r s' => r = none ∧ s' = n_em s x) := fun h => n_at nb136_53 hd rfl (h54 t false (by rw [decide_eq_false h] at h3; exact h3))
    refine n_at nb136_31 hd rfl ⟨⟨by omega, by omega⟩, fun z => h49 (Or.inl z), fun z => ⟨⟨by omega, by omega⟩, ⟨by decide, by decide⟩, fun z2 => h53 (by omega), fun z2 => h49 (by omega)⟩⟩
  refine n_G_of (L := [some (xR 25), some (xI x)]) (by rw [nl136]; exact Nat.le_of_ble_eq_true rfl) (by rw [nl136]; rfl) ?_
  refine n_at nb136_0 hd rfl ⟨⟨by omega, by omega⟩, ⟨by decide, by decide⟩, fun z => ?_, fun z => ⟨⟨by omega, by omega⟩, ?_⟩⟩
  · refine h31 s hb ⟨by omega, by omega⟩ ?_
    unfold n_em
    rw [if_neg (by omega)]
  · refine h31 _ hb ⟨by show 0 ≤ s.1 30 + 1; omega, by show s.1 30 + 1 ≤ _; omega⟩ ?_
    unfold n_em
    rw [if_pos (by omega)]
    rfl
end N18
