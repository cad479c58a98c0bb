/-! A MACRO'S LIST IS REPLACED -/
def n_push (s : nS) (t x y : Int) : nS := (n_upd s.1 29 (s.1 29 + 1), n_updA (n_updA (n_updA s.2 44 (s.1 29).toNat t) 45 (s.1 29).toNat x) 46 (s.1 29).toNat y)
section N35
variable {Z : Nat → List Int32} {d : Nat} {s : nS} {f m n B : Int} {Hb Ob : Nat → Int} {ys : List Int} {Post : nA → nS → Prop}
theorem ng133 (hd : 6 ≤ d) (hm : 0 ≤ m ∧ m < 16) (hn : 0 ≤ n ∧ n ≤ 2000) (hpm : 0 ≤ s.2 29 m.toNat ∧ s.2 29 m.toNat ≤ 4) (hr : 0 ≤ s.1 33 ∧ s.1 33 ≤ 12) (hf : 0 ≤ f ∧ f < 1300) (hv : 0 ≤ s.2 39 f.toNat ∧ s.2 39 f.toNat < 1300) (ht : 0 ≤ s.1 29 ∧ s.1 29 < 300)
    (hbad : Post none (n_upd (n_upd s.1 33 (s.1 33 + 1)) 28 1, s.2))
    (hgood : s.1 33 < 12 → n = s.2 29 m.toNat + 1 → n_CX (n_upd s.1 33 (s.1 33 + 1), s.2) Hb Ob m B (s.2 41 (s.2 39 f.toNat).toNat) ys ∧ n_FI (n_upd s.1 33 (s.1 33 + 1), s.2) Hb Ob ∧ n_read (n_upd s.1 33 (s.1 33 + 1), s.2) m = -1 ∧ (∀ s1 H O wh, n_RW (n_upd s.1 33 (s.1 33 + 1), s.2) Hb Ob B s1 H O → 0 ≤ wh → wh < s1.1 17 → H wh.toNat ≤ B + 8 → s1.1 17 - s.1 17 ≤ 95 → s1.1 18 - s.1 18 ≤ 95 → Post none (n_push s1 0 wh 0))) : NG Z (d + 3) 133 [xR 25, xI f, xI m, xI n] s Post := by
  have h31 : NP Z (d + 3) 133 31 [some (xR 25), some (xI f), some (xI m), some (xI n)] [] (n_upd s.1 33 (s.1 33 + 1), s.2) Post := n_at nb133_31 (by omega) rfl ⟨Or.inr rfl, rfl, hbad⟩
  refine n_G_of (L := [some (xR 25), some (xI f), some (xI m), some (xI n)]) (by rw [nl133]; exact Nat.le_of_ble_eq_true rfl) (by rw [nl133]; rfl) ?_
  refine n_at nb133_0 (by omega) rfl ⟨⟨by show _ ≤ s.1 33 + 1; omega, by show s.1 33 + 1 < _; omega⟩, ⟨by decide, by decide⟩, fun _ => h31, fun z => ⟨⟨by omega, by omega⟩, ⟨by omega, by omega⟩, ⟨by show _ ≤ s.2 29 m.toNat + 1; omega, by show s.2 29 m.toNat + 1 < _; omega⟩, fun z2 => ?_, fun _ => h31⟩⟩
  have z : ¬ 12 < s.1 33 + 1 := z
  obtain ⟨g1, g2, g3, g4⟩ := hgood (by omega) z2
  refine n_at nb133_37 (by omega) rfl ⟨⟨hf.1, hf.2⟩, ⟨hv.1, hv.2⟩, ?_⟩
  refine n_iv (d := d + 2) (vs := [xR 25, xI m, xI 0, xI (s.2 41 (s.2 39 f.toNat).toNat)]) (r := [xI 0, xR 25]) (P := fun r s1 => ∃ H O wh, n_RW (n_upd s.1 33 (s.1 33 + 1), s.2) Hb Ob B s1 H O ∧ r = some wh ∧ 0 ≤ wh ∧ wh < s1.1 17 ∧ H wh.toNat ≤ B + 8 ∧ s1.1 17 - s.1 17 ≤ 95 ∧ s1.1 18 - s.1 18 ≤ 95) nn111 (by simp) rfl nc111 (ng111 hd g1 g2 ?_) (fun r s1 hr1 => ?_)
  · rw [g3]
    refine ⟨fun _ s1 H O wh a1 a2 a3 a4 a5 a6 _ => ⟨H, O, wh, a1, rfl, a2, a3, a4, a5, a6⟩, fun h => absurd h (by decide)⟩
  · obtain ⟨H, O, wh, a1, a2, a3, a4, a5, a6, a7⟩ := hr1
    rw [a2]
    have e29 : s1.1 29 = s.1 29 := a1.1.1 29 (by decide)
    refine n_iv (vs := [xR 25, xI 0, xI wh, xI 0]) (r := []) nn129 (by simp) rfl nc129 (ng129 (s := s1) (d := d + 2) (by omega) (by rw [e29]; exact ht)) (fun r s' hr => ?_)
    rw [hr.1, hr.2]
    exact ⟨rfl, g4 s1 H O wh a1 a3 a4 a5 a6 a7⟩
end N35
