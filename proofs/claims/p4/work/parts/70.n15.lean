section N16
variable {Z : Nat → List Int32} {d n : Nat} {b s : nS} {Hb Ob H O : Nat → Int} {m B g fr wh W c : Int} {ap : Bool} {ys : List Int} {Post : nA → nS → Prop} {o6 o7 o8 o9 : Option nV}
theorem n_l37 (hd : 6 ≤ d) (hC : n_CX b Hb Ob m B g ys) (hP : n_PX b Hb Ob B Post W) (hK : n_BK Z d b Hb Ob m B g fr Post W n) (hS : n_SX b Hb Ob m B s H O wh ap) (hn : n_lenT b m - s.1 23 ≤ n) (hE : n_rpE (n_at1 b m) (decide (0 ≤ m)) (n + 1) (s.1 23) (s.1 25) ap (decide (0 ≤ wh)) W) (y0 : ¬ (0 ≤ wh ∧ 0 ≤ m)) : NP Z (d + 2) 111 37 (n_L10 m fr g wh ap o6 o7 o8 o9) [] s Post := by
  have hT := hC.1
  have hfr := hS.1.1
  have hTs := n_fr_TX hfr hT
  have N1 := hS.2.1.1
  have hlen := n_len_b hT
  have hcb := n_at1_b (k := s.1 23) hT
  have h77 := n_l77 (o7 := o7) (o8 := o8) (o9 := o9) hd hC hP hK hS hn rfl hE y0
  have hcr : n_rng (n_at1 b m (s.1 23)) := ⟨by omega, by omega⟩
  have h72 : c_beg (n_at1 b m (s.1 23)) = true → NP Z (d + 2) 111 72 (n_L10 m fr g wh ap (some (xI (n_at1 b m (s.1 23)))) o7 o8 o9) [] s Post := fun h => n_at nb111_72 (by omega) rfl (by rw [h] at h77; exact h77)
  have h76 : c_beg (n_at1 b m (s.1 23)) = false → NP Z (d + 2) 111 76 (n_L10 m fr g wh ap (some (xI (n_at1 b m (s.1 23)))) o7 o8 o9) [] s Post := fun h => n_at nb111_76 (by omega) rfl (by rw [h] at h77; exact h77)
  refine n_at nb111_37 (by omega) rfl ?_
  refine n_iv (vs := [xR 25, xI m, xI (s.1 23)]) (r := []) nn112 (by simp) rfl nc112 (ng112p (S := s.1) (by omega) hTs rfl ⟨by omega, by omega⟩) (fun r s' hr => ?_)
  rw [hr.1, hr.2, n_fr_at hfr]
  refine n_is (vs := [xI (n_at1 b m (s.1 23))]) (r := []) nn113 (by simp) (ng113 (by omega) hcr) (fun r s' hr => ?_)
  rw [hr.1, hr.2]
  refine ⟨n_rngT _, fun z => h72 (by simp [c_beg, n_T1 z]), fun z1 => ?_⟩
  refine n_is (vs := [xI (n_at1 b m (s.1 23))]) (r := []) nn114 (by simp) (ng114 (by omega) hcr) (fun r s' hr => ?_)
  rw [hr.1, hr.2]
  refine ⟨n_rngT _, fun z => h72 (by simp [c_beg, n_T1 z]), fun z2 => ?_⟩
  refine n_is (vs := [xI (n_at1 b m (s.1 23))]) (r := []) nn115 (by simp) (ng115 (by omega) hcr) (fun r s' hr => ?_)
  rw [hr.1, hr.2]
  exact ⟨n_rngT _, fun z => h76 (by simp [c_beg, n_T0 z1, n_T0 z2, n_T0 z]), fun z => h72 (by simp [c_beg, n_T1 z])⟩
theorem n_l21 (hd : 6 ≤ d) (hC : n_CX b Hb Ob m B g ys) (hP : n_PX b Hb Ob B Post W) : ∀ n : Nat, n_BK Z d b Hb Ob m B g fr Post W n := by
  intro n
  induction n with
  | zero =>
    intro s H O wh ap o6 o7 o8 o9 hR hN h24 hm hE
    have := hN.1
    omega
  | succ n ih =>
    intro s H O wh ap o6 o7 o8 o9 hR hN h24 hm hE
    have hS : n_SX b Hb Ob m B s H O wh ap := ⟨hR, hN, h24⟩
    have h37 := fun y0 => n_l37 (o6 := o6) (o7 := o7) (o8 := o8) (o9 := o9) hd hC hP ih hS (by omega) hE y0
    have hFI := hR.2.1
    have hmm := hC.1.2.1
    have hlen := n_len_b hC.1
    have hap := n_T01 ap
    obtain ⟨N1, N2, N3, N4, N5⟩ := hN
    have hwr : n_rng wh := by
      have := hFI.1
      rcases N5 with N5 | N5
      · exact ⟨by omega, by omega⟩
      · exact ⟨by omega, by omega⟩
    refine n_at nb111_21 (by omega) rfl ?_
    refine ⟨⟨by omega, by omega⟩, fun z => ?_, fun _ => ?_⟩
    · omega
    refine ⟨hwr, fun z => h37 (by omega), fun z => ?_⟩
    refine ⟨⟨by omega, by omega⟩, fun z2 => ?_, fun z2 => h37 (by omega)⟩
    refine n_at nb111_384 (by omega) rfl ?_
    have hW := n_rpE_1 hE ⟨decide_eq_true (by omega), decide_eq_true (by omega)⟩
    rcases N5 with N5 | N5
    · omega
    · exact hP.1 hW s H O wh hR N5.1 N5.2.1 N5.2.2.1 (by omega) (by omega) h24
/-- what reading comes to, from a text's beginning -/
def n_read (b : nS) (m : Int) : Int := n_rp (n_at1 b m) (decide (0 ≤ m)) 200 0 0 true false
/-- read, from the text's beginning -/
theorem ng111 (hd : 6 ≤ d) (hC : n_CX b Hb Ob m B g ys) (hF : n_FI b Hb Ob) (hP : n_PX b Hb Ob B Post (n_read b m)) : NG Z (d + 2) 111 [xR 25, xI m, xI 0, xI g] b Post := by
  have hlen := n_len_b hC.1
  refine n_G_of (L := [some (xR 25), some (xI m), some (xI 0), some (xI g), none, none, none, none, none, none]) (by rw [nl111]; exact Nat.le_of_ble_eq_true rfl) (by rw [nl111]; rfl) ?_
  refine n_at nb111_0 (by omega) rfl ?_
  have hfr0 : n_RW b Hb Ob B b Hb Ob → n_RW b Hb Ob B (n_upd (n_upd (n_upd b.1 23 0) 24 (-1)) 25 0, b.2) Hb Ob := by
    intro h
    obtain ⟨h1, h2, h3, h4⟩ := h
    refine ⟨⟨fun k hk => ?_, h1.2⟩, h2, h3, fun l l1 l2 => ?_⟩
    · show n_upd (n_upd (n_upd b.1 23 0) 24 (-1)) 25 0 k = _
      rw [n_u_ne hk.2.2.2.2, n_u_ne hk.2.2.2.1, n_u_ne hk.2.2.1]
    · have l2 : (l : Int) ≤ 0 := l2
      omega
  have hR : n_RW b Hb Ob B (n_upd (n_upd (n_upd b.1 23 0) 24 (-1)) 25 0, b.2) Hb Ob := by
    refine ⟨⟨fun k hk => ?_, fun _ _ _ => rfl⟩, hF, ⟨Int.le_refl _, Int.le_refl _, fun _ _ => ⟨rfl, rfl, rfl⟩, fun _ _ => ⟨rfl, rfl, rfl⟩⟩, fun l l1 l2 => ?_⟩
    · show n_upd (n_upd (n_upd b.1 23 0) 24 (-1)) 25 0 k = _
      rw [n_u_ne hk.2.2.2.2, n_u_ne hk.2.2.2.1, n_u_ne hk.2.2.1]
    · have l2 : (l : Int) ≤ 0 := l2
      omega
  refine n_l21 (fr := 0) hd hC hP 200 (n_upd (n_upd (n_upd b.1 23 0) 24 (-1)) 25 0, b.2) Hb Ob (-1) true none none none none hR ⟨⟨?_, ?_⟩, ⟨?_, ?_⟩, ?_, ?_, Or.inl rfl⟩ rfl ?_ rfl
  · show (0 : Int) ≤ 0; omega
  · show (0 : Int) ≤ _; omega
  · show (0 : Int) ≤ 0; omega
  · show (0 : Int) ≤ 8; omega
  · show 4 * (b.1 17 - b.1 17) ≤ 3 * 0 + 2 * 0 + (1 - 1); omega
  · show 4 * (b.1 18 - b.1 18) ≤ 3 * 0 + 2 * 0 + (1 - 1); omega
  · show n_lenT b m - 0 < ((200 : Nat) : Int); omega
end N16
