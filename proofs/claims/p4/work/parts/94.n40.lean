/-! THE TASK MACHINE: a form is made, whatever comes behind -/
/-- the loop, as far as tasks need to know it -/
def n_LO (Z : Nat → List Int32) (d : Nat) (b : nS) (P : nS → Prop) : Prop := (∀ s, n_bf b s → (0 ≤ s.1 30 ∧ s.1 30 ≤ 260) → (0 ≤ s.1 29 ∧ s.1 29 ≤ 300) → s.1 28 = 1 → P s) ∧ (∀ (s : nS) (i : Nat), s.1 29 = (i : Int) + 1 → i < 300 → s.1 28 = 0 → NG Z (d + 5) 130 [xR 25, xI (s.2 44 i), xI (s.2 45 i), xI (s.2 46 i)] (n_upd s.1 29 i, s.2) (fun r s' => r = none ∧ P s') → P s)
/-- the known names' slots lie below e -/
def n_SB (s : nS) (e : Int) : Prop := ∀ k : Nat, (k : Int) < s.1 32 → 0 ≤ s.2 49 k ∧ s.2 49 k < e
/-- what comes behind a form -/
def n_KF (P : nS → Prop) (b s : nS) (D H O : Nat → Int) (Q : Nat → Prop) (z i : Nat) : Prop := ∀ (s' : nS) (D' H' O' : Nat → Int) (z' : Nat), n_BI b s' D' H' O' Q z' → n_E i (s.1 32) z s D H O s' D' H' O' → z ≤ z' → s'.1 29 = (i : Int) → s'.1 31 = s.1 31 + 1 → s'.1 32 = s.1 32 → P s'
def n_RM (i : Nat) (v : Int) (r h : Nat) : Prop := (i : Int) + 2 * (h + 7 * r) ≤ 190 ∧ v + h + 7 * r ≤ 96
def n_FC (P : nS → Prop) (b : nS) (r h : Nat) : Prop := ∀ (s : nS) (D H O : Nat → Int) (Q : Nat → Prop) (z i : Nat) (f : Int), n_BI b s D H O Q z → s.1 29 = (i : Int) + 1 → s.2 44 i = 0 → s.2 45 i = f → (0 ≤ f ∧ f < s.1 17) → H f.toNat ≤ h → 12 - s.1 33 ≤ r → n_RM i (s.1 32) r h → n_SB s (s.1 31) → n_KF P b s D H O Q z i → P s
/-- a chain of a list's cells -/
def n_ch (s : nS) (O : Nat → Int) (c f : Int) (xs : List Int) : Prop := n_isch s.2 c xs ∧ ∀ x ∈ xs, (0 ≤ x ∧ x < s.1 18) ∧ O x.toNat = f
section N40
variable {Z : Nat → List Int32} {d r h : Nat} {P : nS → Prop} {b s t : nS} {D H O D' H' O' : Nat → Int} {Q Q' : Nat → Prop} {z z' w i : Nat} {f c v : Int} {xs : List Int}
theorem n_ch_old (hc : n_ch s O c f xs) (ho : n_old s H O t H' O') : n_ch t O' c f xs := by
  refine ⟨n_isch_old ho _ _ hc.1 (fun y hy => (hc.2 y hy).1), fun x hx => ?_⟩
  obtain ⟨h1, h2⟩ := hc.2 x hx
  have := ho.2.1
  refine ⟨⟨h1.1, by omega⟩, ?_⟩
  rw [(ho.2.2.2 x.toNat (by omega)).2.2]
  exact h2
/-- a cell's form -/
theorem n_cell1 (hF : n_FI s H O) {x : Int} (hx : (0 ≤ x ∧ x < s.1 18) ∧ O x.toNat = f) (hf : 0 ≤ f) : (0 ≤ s.2 40 x.toNat ∧ s.2 40 x.toNat < s.1 17) ∧ H (s.2 40 x.toNat).toNat < H f.toNat := by
  obtain ⟨⟨h1, h2⟩, h3⟩ := hx
  obtain ⟨g1, g2, g3, g4⟩ := hF.2.2.2 x.toNat (by omega)
  rw [h3] at g3
  exact ⟨g1, g3⟩
theorem n_form1 (hF : n_FI s H O) (hf : 0 ≤ f ∧ f < s.1 17) : (0 ≤ f ∧ f < 1300) ∧ n_rng (s.2 38 f.toNat) ∧ (s.2 38 f.toNat = 1 → n_rng (s.2 39 f.toNat)) ∧ 0 ≤ H f.toNat := by
  obtain ⟨g1, g2, g3, g4⟩ := hF.2.2.1 f.toNat (by omega)
  have := hF.1
  refine ⟨⟨hf.1, by omega⟩, ?_, fun h => g3 (by omega), g2⟩
  rcases g1 with g | g | g <;> rw [g] <;> exact ⟨by decide, by decide⟩
/-- a form's task is laid down -/
theorem n_sub (IH : n_FC P b r h) (hB : n_BI b s D H O Q z) (hi : s.1 29 = (i : Int)) (hf : 0 ≤ f ∧ f < s.1 17) (hH : H f.toNat ≤ h) (hr : 12 - s.1 33 ≤ r) (hm : n_RM i (s.1 32) r h) (hs : n_SB s (s.1 31)) (K : n_KF P b s D H O Q z i) : P (n_push s 0 f 0) := by
  obtain ⟨p1, p2, p3, p4⟩ := n_pushed (s := s) (k := 0) (x := f) (y := 0) hi
  refine IH (n_push s 0 f 0) D H O Q z i f (n_BI_push hB) p1 p2 p3 hf hH hr hm hs ?_
  intro s' D' H' O' z' k1 k2 k3 k4 k5 k6
  exact K s' D' H' O' z' k1 (n_E_tr (n_E_push (by omega) (by omega)) k2 (Int.le_refl _) (Int.le_refl _) (Nat.le_refl _)) k3 k4 k5 k6
/-- the next task -/
theorem n_go (hL : n_LO Z d b P) {k x y : Int} (hi : s.1 29 = (i : Int) + 1) (h3 : i < 300) (hb : s.1 28 = 0) (h44 : s.2 44 i = k) (h45 : s.2 45 i = x) (h46 : s.2 46 i = y) (hG : NG Z (d + 5) 130 [xR 25, xI k, xI x, xI y] (n_upd s.1 29 i, s.2) (fun r s' => r = none ∧ P s')) : P s := by
  refine hL.2 s i hi h3 hb ?_
  rw [h44, h45, h46]
  exact hG
/-- a wrong body ends at once -/
theorem n_bad (hL : n_LO Z d b P) (hb : n_bf b s) (h30 : 0 ≤ s.1 30 ∧ s.1 30 ≤ 260) (h29 : 0 ≤ s.1 29 ∧ s.1 29 ≤ 300) (h28 : s.1 28 = 0 ∨ s.1 28 = 1) (h : s.1 28 = 0 → P s) : P s := by
  rcases h28 with h1 | h1
  · exact h h1
  · exact hL.1 s hb h30 h29 h1
/-- an atom of one number: three bytes -/
theorem n_aN (hL : n_LO Z d b P) (hd : 6 ≤ d) (hB : n_BI b s D H O Q z) (hi : s.1 29 = (i : Int)) (hi2 : i < 300) {x : Int} (K : n_KF P b s D H O Q z i) : P (n_fd (n_e (n_e (n_e s 0) (n_shr x 8)) x) 31 1) := by
  obtain ⟨a0, ⟨g1, g2, g3⟩, a2, a3, ⟨d1, d2, d3⟩, a5, a6⟩ := hB
  refine n_bad hL (n_bf_fd (n_bf_e (n_bf_e (n_bf_e a0))) (by decide)) ⟨by show 0 ≤ s.1 30 + 1 + 1 + 1; omega, by show s.1 30 + 1 + 1 + 1 ≤ 260; omega⟩ ⟨by show 0 ≤ s.1 29; omega, by show s.1 29 ≤ 300; omega⟩ (n_T01 _) (fun h0 => ?_)
  have hz := (n_e28_0 (s := n_e (n_e s 0) (n_shr x 8)) (x := x) h0).2
  have hz : s.1 30 + 1 + 1 + 1 ≤ 200 := hz
  have e1 := n_e30 (s := s) (x := 0) g1
  have e2 := n_e30 (s := n_e s 0) (x := n_shr x 8) e1
  have hc : ∀ j, (n_fd (n_e (n_e (n_e s 0) (n_shr x 8)) x) 31 1).2 47 j = if j = z + 1 + 1 then n_by x else if j = z + 1 then n_by (n_shr x 8) else if j = z then n_by 0 else s.2 47 j := fun j => by
    show (n_e (n_e (n_e s 0) (n_shr x 8)) x).2 47 j = _
    rw [n_e47 e2, n_e47 e1, n_e47 g1]
  have q1 : ∀ k, ¬ (28 ≤ k ∧ k ≤ 31) → (n_fd (n_e (n_e (n_e s 0) (n_shr x 8)) x) 31 1).1 k = s.1 k := fun k hk => by
    show n_upd (n_upd (n_upd (n_upd (n_upd (n_upd (n_upd s.1 30 _) 28 _) 30 _) 28 _) 30 _) 28 _) 31 _ k = _
    rw [n_u_ne (by omega), n_u_ne (by omega), n_u_ne (by omega), n_u_ne (by omega), n_u_ne (by omega), n_u_ne (by omega), n_u_ne (by omega)]
  have q2 : ∀ a i, ¬ (44 ≤ a ∧ a ≤ 47) → (n_fd (n_e (n_e (n_e s 0) (n_shr x 8)) x) 31 1).2 a i = s.2 a i := fun a i ha => by
    show n_updA (n_updA (n_updA s.2 47 _ _) 47 _ _) 47 _ _ a i = _
    rw [n_ua_ne (by omega), n_ua_ne (by omega), n_ua_ne (by omega)]
  have hz1 := a5.2.1
  have hcb : ∀ j, j < z → (n_fd (n_e (n_e (n_e s 0) (n_shr x 8)) x) 31 1).2 47 j = s.2 47 j := fun j hj => by
    rw [hc, if_neg (by omega), if_neg (by omega), if_neg (by omega)]
  have hBI := n_BI_app (w := 3) (e := s.1 31 + 1) (Q' := Q) ⟨a0, ⟨g1, g2, g3⟩, a2, a3, ⟨d1, d2, d3⟩, a5, a6⟩ (n_bf_fd (n_bf_e (n_bf_e (n_bf_e a0))) (by decide)) (by decide) (t := n_fd (n_e (n_e (n_e s 0) (n_shr x 8)) x) 31 1) (by show s.1 30 + 1 + 1 + 1 = _; omega) (by omega) h0 rfl (by omega) (by omega) q1 q2 hcb (fun _ h => h) (Or.inl ⟨by rw [hc, if_neg (by omega), if_neg (by omega), if_pos rfl]; decide, by omega, by rw [n_u_eq, n_u_ne (by omega), d1], by rw [n_u_ne (by omega)]; exact hz1 _ (by omega), by rw [n_u_ne (by omega)]; exact hz1 _ (by omega)⟩)
  exact K _ _ _ _ _ hBI (n_E_app q1 q2 hcb (by decide) (Nat.le_refl _) (fun _ _ => ⟨rfl, rfl, rfl⟩)) (by omega) hi rfl rfl
/-- an atom that is a name: two bytes -/
theorem n_aS (hL : n_LO Z d b P) (hd : 6 ≤ d) (hB : n_BI b s D H O Q z) (hi : s.1 29 = (i : Int)) (hi2 : i < 300) (hs : n_SB s (s.1 31)) {x : Int} (K : n_KF P b s D H O Q z i) : P (n_fd (n_e (n_e (n_slotS s x) 1) (if n_slotK s x < 0 then 0 else s.2 49 (n_slotK s x).toNat)) 31 1) := by
  obtain ⟨a0, ⟨g1, g2, g3⟩, a2, a3, ⟨d1, d2, d3⟩, a5, a6⟩ := hB
  generalize hsl : (if n_slotK s x < 0 then 0 else s.2 49 (n_slotK s x).toNat) = sl
  refine n_bad hL (n_bf_fd (n_bf_e (n_bf_e (n_bf_28 a0))) (by decide)) ⟨by show 0 ≤ s.1 30 + 1 + 1; omega, by show s.1 30 + 1 + 1 ≤ 260; omega⟩ ⟨by show 0 ≤ s.1 29; omega, by show s.1 29 ≤ 300; omega⟩ (n_T01 _) (fun h0 => ?_)
  have h01 := n_e28_0 (s := n_e (n_slotS s x) 1) (x := sl) h0
  have hz : s.1 30 + 1 + 1 ≤ 200 := h01.2
  have h02 := n_T00 (n_e28_0 (s := n_slotS s x) (x := 1) h01.1).1
  have hk0 : 0 ≤ n_slotK s x := by omega
  have hkb := n_lat_b (fun i => decide (s.2 38 x.toNat = 1 ∧ s.2 48 i = s.2 39 x.toNat)) (s.1 32).toNat
  have hkb : n_slotK s x < ((s.1 32).toNat : Nat) := hkb.2
  rw [if_neg (by omega)] at hsl
  have hsb := hs (n_slotK s x).toNat (by have := a3.1; omega)
  rw [hsl] at hsb
  have e1 := n_e30 (s := n_slotS s x) (z := z) (x := 1) g1
  have hc : ∀ j, (n_fd (n_e (n_e (n_slotS s x) 1) sl) 31 1).2 47 j = if j = z + 1 then n_by sl else if j = z then n_by 1 else s.2 47 j := fun j => by
    show (n_e (n_e (n_slotS s x) 1) sl).2 47 j = _
    rw [n_e47 e1, n_e47 (s := n_slotS s x) (z := z) g1]
    rfl
  have q1 : ∀ k, ¬ (28 ≤ k ∧ k ≤ 31) → (n_fd (n_e (n_e (n_slotS s x) 1) sl) 31 1).1 k = s.1 k := fun k hk => by
    show n_upd (n_upd (n_upd (n_upd (n_upd (n_upd s.1 28 _) 30 _) 28 _) 30 _) 28 _) 31 _ k = _
    rw [n_u_ne (by omega), n_u_ne (by omega), n_u_ne (by omega), n_u_ne (by omega), n_u_ne (by omega), n_u_ne (by omega)]
  have q2 : ∀ a i, ¬ (44 ≤ a ∧ a ≤ 47) → (n_fd (n_e (n_e (n_slotS s x) 1) sl) 31 1).2 a i = s.2 a i := fun a i ha => by
    show n_updA (n_updA s.2 47 _ _) 47 _ _ a i = _
    rw [n_ua_ne (by omega), n_ua_ne (by omega)]
  have hz1 := a5.2.1
  have hcb : ∀ j, j < z → (n_fd (n_e (n_e (n_slotS s x) 1) sl) 31 1).2 47 j = s.2 47 j := fun j hj => by
    rw [hc, if_neg (by omega), if_neg (by omega)]
  have hBI := n_BI_app (w := 2) (e := s.1 31 + 1) (Q' := Q) ⟨a0, ⟨g1, g2, g3⟩, a2, a3, ⟨d1, d2, d3⟩, a5, a6⟩ (n_bf_fd (n_bf_e (n_bf_e (n_bf_28 a0))) (by decide)) (by decide) (t := n_fd (n_e (n_e (n_slotS s x) 1) sl) 31 1) (by show s.1 30 + 1 + 1 = _; omega) (by omega) h0 rfl (by omega) (by omega) q1 q2 hcb (fun _ h => h) (Or.inr (Or.inl ⟨by rw [hc, if_neg (by omega), if_pos rfl]; decide, by omega, by rw [n_u_eq, n_u_ne (by omega), d1], by rw [n_u_ne (by omega)]; exact hz1 _ (by omega), by rw [hc, if_pos rfl, n_u_ne (by omega), d1, n_by_small ⟨hsb.1, by omega⟩]; exact hsb.2⟩))
  exact K _ _ _ _ _ hBI (n_E_app q1 q2 hcb (by decide) (Nat.le_refl _) (fun _ _ => ⟨rfl, rfl, rfl⟩)) (by omega) hi rfl rfl
/-- an atom's task -/
theorem n_at0 (hL : n_LO Z d b P) (hd : 6 ≤ d) (hB : n_BI b s D H O Q z) (hi : s.1 29 = (i : Int) + 1) (hi2 : i < 300) (h44 : s.2 44 i = 0) (h45 : s.2 45 i = f) (hf : 0 ≤ f ∧ f < s.1 17) (hk : ¬ s.2 38 f.toNat = 2) (hs : n_SB s (s.1 31)) (K : n_KF P b s D H O Q z i) : P s := by
  have hF := hB.2.2.1.1
  obtain ⟨f1, f2, f3, f4⟩ := n_form1 hF hf
  have hN := hB.2.2.2.1
  have hN1 := hN.1.2
  obtain ⟨g1, g2, g3⟩ := hB.2.1
  have K1 : n_KF P b (n_upd s.1 29 i, s.2) D H O Q z i := by
    intro s' D' H' O' z' k1 k2 k3 k4 k5 k6
    exact K s' D' H' O' z' k1 (n_E_tr n_E_pop k2 (Int.le_refl _) (Int.le_refl _) (Nat.le_refl _)) k3 k4 k5 k6
  refine n_go hL hi hi2 g3 h44 h45 rfl ?_
  refine n_pfA (d := d + 2) (s := (n_upd s.1 29 i, s.2)) (by omega) f1 f2 hk f3 hN.2 ⟨hN.1.1, by show s.1 32 ≤ 120; omega⟩ (Or.inl g3) ⟨by show 0 ≤ s.1 30; omega, by show s.1 30 ≤ 260; omega⟩ ⟨rfl, ?_⟩
  have hB1 := n_BI_pop (x := (i : Int)) hB
  by_cases h0 : s.2 38 f.toNat = 0
  · have := n_aN (x := s.2 39 f.toNat) hL hd hB1 (i := i) rfl hi2 K1
    have e : n_atS (n_upd s.1 29 i, s.2) f = n_e (n_e (n_e (n_upd s.1 29 i, s.2) 0) (n_shr (s.2 39 f.toNat) 8)) (s.2 39 f.toNat) := by
      unfold n_atS
      rw [if_pos h0, n_em_e (s := (n_upd s.1 29 i, s.2)) (by show s.1 30 < 260; omega), n_em_e (s := n_e (n_upd s.1 29 i, s.2) 0) (by show s.1 30 + 1 < 260; omega), n_em_e (by show s.1 30 + 1 + 1 < 260; omega)]
    rw [e]
    exact this
  · have := n_aS (x := f) hL hd hB1 (i := i) rfl hi2 hs K1
    have e : n_atS (n_upd s.1 29 i, s.2) f = n_e (n_e (n_slotS (n_upd s.1 29 i, s.2) f) 1) (if n_slotK (n_upd s.1 29 i, s.2) f < 0 then 0 else s.2 49 (n_slotK (n_upd s.1 29 i, s.2) f).toNat) := by
      unfold n_atS
      rw [if_neg h0, n_em_e (s := n_slotS (n_upd s.1 29 i, s.2) f) (by show s.1 30 < 260; omega), n_em_e (by show s.1 30 + 1 < 260; omega)]
    rw [e]
    exact this
end N40
