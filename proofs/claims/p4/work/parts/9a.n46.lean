/-! THE TASK MACHINE: macros; a form; a body -/
/-- the units, as a body needs them -/
def n_MU (b : nS) : Prop := (0 ≤ b.1 2 ∧ b.1 2 ≤ 16) ∧ (∀ i, n_rng (b.2 27 i) ∧ n_rng (b.2 28 i)) ∧ (∀ i, n_rng (b.2 35 i)) ∧ (∀ m : Int, 0 ≤ m → m < b.1 2 → b.2 27 m.toNat = 2 → (0 ≤ b.2 29 m.toNat ∧ b.2 29 m.toNat ≤ 4) ∧ n_TX b m ∧ n_read b m = -1)
section N46
variable {Z : Nat → List Int32} {d r h : Nat} {P : nS → Prop} {b s t : nS} {D H O D' H' O' : Nat → Int} {Q Q' : Nat → Prop} {z z' w i j : Nat} {f c v m : Int} {xs : List Int}
theorem n_bf_at (hb : n_bf b s) : n_at1 s m = n_at1 b m := by
  funext k
  unfold n_at1
  rw [hb.1 1 (by decide), hb.2 37 _ (by decide), hb.2 36 _ (by decide), hb.2 26 _ (by decide)]
theorem n_bf_TX (hb : n_bf b s) (h : n_TX b m) : n_TX s m := by
  unfold n_TX at *
  rw [hb.1 1 (by decide), hb.2 37 _ (by decide), show s.2 26 = b.2 26 from funext (fun i => hb.2 26 i (by decide)), show s.2 36 = b.2 36 from funext (fun i => hb.2 36 i (by decide))]
  exact h
theorem n_bf_read (hb : n_bf b s) : n_read s m = n_read b m := by
  unfold n_read
  rw [n_bf_at hb]
theorem n_kMac {a : Int} (hL : n_LO Z d b P) (hd : 6 ≤ d) (hU : n_MU b) (IHr : 1 ≤ r → n_FC P b (r - 1) (h + 8)) (hB : n_BI b s D H O Q z) (hi : s.1 29 = (i : Int)) (hf : 0 ≤ f ∧ f < s.1 17) (hH : H f.toNat ≤ h + 1) (hr : 12 - s.1 33 ≤ r) (hm : n_RM i (s.1 32) r (h + 1)) (hs : n_SB s (s.1 31)) (K : n_KF P b s D H O Q z i) (hc : n_ch s O (s.2 39 f.toNat) f (a :: xs)) (hl : (a :: xs).length ≤ 1300) (hm1 : 0 ≤ m) (hm2 : m < s.1 2) (hm3 : s.2 27 m.toNat = 2) : NG Z (d + 3) 133 [xR 25, xI f, xI m, xI (a :: xs).length] s (fun r' s' => r' = none ∧ P s') := by
  have hbf := hB.1
  have hF := hB.2.2.1.1
  have hr12 := hB.2.2.1.2.1
  have h17 := hB.2.2.1.2.2.1
  have h18 := hB.2.2.1.2.2.2
  have e2 : s.1 2 = b.1 2 := hbf.1 2 (by decide)
  have e27 : s.2 27 m.toNat = b.2 27 m.toNat := hbf.2 27 _ (by decide)
  have e29 : s.2 29 m.toNat = b.2 29 m.toNat := hbf.2 29 _ (by decide)
  obtain ⟨p1, p2, p3⟩ := hU.2.2.2 m hm1 (by omega) (by rw [← e27]; exact hm3)
  obtain ⟨ff, -, -, -⟩ := n_form1 hF hf
  have h30 : s.1 30 = (z : Int) := hB.2.1.1
  have hz2 := hB.2.1.2.1
  have hi3 : i < 290 := by unfold n_RM at hm; omega
  have hu := hU.1
  refine ng133 (Hb := H) (Ob := O) (B := (h : Int)) (ys := xs) hd ⟨hm1, by omega⟩ ⟨by omega, by omega⟩ (by rw [e29]; exact p1) hr12 ff ⟨by rw [hc.1.1]; exact hc.1.2.1, by rw [hc.1.1]; exact hc.1.2.2.1⟩ ⟨by omega, by omega⟩ ⟨rfl, ?_⟩ (fun g1 g2 => ?_)
  · refine hL.1 _ ?_ ⟨by show 0 ≤ s.1 30; omega, by show s.1 30 ≤ 260; omega⟩ ⟨by show 0 ≤ s.1 29; omega, by show s.1 29 ≤ 300; omega⟩ rfl
    refine ⟨fun k hk => ?_, hbf.2⟩
    show n_upd (n_upd s.1 33 _) 28 _ k = _
    rw [n_u_ne (by omega), n_u_ne (by omega)]
    exact hbf.1 k hk
  · have hbf0 : n_bf b (n_upd s.1 33 (s.1 33 + 1), s.2) := by
      refine ⟨fun k hk => ?_, hbf.2⟩
      show n_upd s.1 33 _ k = _
      rw [n_u_ne (by omega)]
      exact hbf.1 k hk
    have hF0 : n_FI (n_upd s.1 33 (s.1 33 + 1), s.2) H O := hF
    refine ⟨⟨n_bf_TX hbf0 p2, by omega, ⟨hF.1.1, by show s.1 17 ≤ 1200; omega⟩, ⟨hF.2.1.1, by show s.1 18 ≤ 1200; omega⟩, fun _ => ⟨by show 0 ≤ s.2 29 m.toNat; rw [e29]; exact p1.1, by show s.2 29 m.toNat ≤ 4; rw [e29]; exact p1.2, ?_⟩, ?_, ?_, ?_, fun y hy => ?_⟩, hF0, by rw [n_bf_read hbf0]; exact p3, ?_⟩
    · show s.2 29 m.toNat ≤ _
      rw [List.length_cons] at g2
      omega
    · intro k
      show n_rng (s.2 35 k)
      rw [hbf.2 35 k (by decide)]
      exact hU.2.2.1 k
    · rw [hc.1.1]
      exact hc.1.2.2.2
    · rw [List.length_cons] at hl
      omega
    · have hy1 := hc.2 y (List.mem_cons_of_mem _ hy)
      obtain ⟨q1, q2⟩ := n_cell1 hF hy1 hf.1
      exact ⟨hy1.1, q1, by show H (s.2 40 y.toNat).toNat ≤ _; omega⟩
    · intro s1 H1 O1 wh k1 k2 k3 k4 k5 k6
      refine ⟨rfl, ?_⟩
      obtain ⟨⟨r1, r2⟩, r3, r4, -⟩ := k1
      have f1 : ∀ k, k ≠ 17 ∧ k ≠ 18 ∧ k ≠ 23 ∧ k ≠ 24 ∧ k ≠ 25 ∧ k ≠ 33 → s1.1 k = s.1 k := fun k hk => by
        rw [r1 k ⟨hk.1, hk.2.1, hk.2.2.1, hk.2.2.2.1, hk.2.2.2.2.1⟩]
        exact n_u_ne hk.2.2.2.2.2
      have f33 : s1.1 33 = s.1 33 + 1 := by rw [r1 33 (by decide)]; rfl
      have f2 : ∀ a i, ¬ (38 ≤ a ∧ a ≤ 43) → s1.2 a i = s.2 a i := fun a i ha => r2 a i ha
      have hold : n_old s H O s1 H1 O1 := r4
      obtain ⟨a0, ⟨g1', g2', g3'⟩, a2, a3, ⟨d1, d2, d3⟩, a5, a6⟩ := hB
      have e47 : s1.2 47 = s.2 47 := funext (fun i => f2 47 i (by decide))
      have e50 : s1.2 50 = s.2 50 := funext (fun i => f2 50 i (by decide))
      have e51 : s1.2 51 = s.2 51 := funext (fun i => f2 51 i (by decide))
      have eM : n_M s1 = n_M s := by
        funext q
        unfold n_M
        rw [f1 34 (by decide), e50]
      have hB1 : n_BI b s1 D H1 O1 Q z := by
        refine ⟨⟨fun k hk => ?_, fun a i ha => ?_⟩, ⟨by rw [f1 30 (by decide)]; exact g1', g2', by rw [f1 28 (by decide)]; exact g3'⟩, ⟨r3, by rw [f33]; omega, by rw [f33]; omega, by rw [f33]; omega⟩, ?_, ⟨by rw [f1 31 (by decide)]; exact d1, by rw [f1 31 (by decide)]; exact d2, by rw [f1 31 (by decide), f1 30 (by decide)]; exact d3⟩, ?_, ?_⟩
        · rw [f1 k (by omega)]
          exact hbf.1 k hk
        · rw [f2 a i (by omega)]
          exact hbf.2 a i ha
        · unfold n_GN at *
          rw [f1 32 (by decide), show s1.2 48 = s.2 48 from funext (fun i => f2 48 i (by decide))]
          exact a3
        · rw [e47, eM]
          exact a5
        · unfold n_MK at *
          rw [f1 34 (by decide), f1 30 (by decide), e47, e50, e51]
          exact a6
      have hE : n_E i (s.1 32) z s D H O s1 D H1 O1 := ⟨hold, by rw [f33]; omega, fun j _ => f2 47 j (by decide), fun _ _ => rfl, fun j _ => ⟨f2 44 j (by decide), f2 45 j (by decide), f2 46 j (by decide)⟩, fun k _ => f2 49 k (by decide)⟩
      have e32 : s1.1 32 = s.1 32 := f1 32 (by decide)
      have e31 : s1.1 31 = s.1 31 := f1 31 (by decide)
      refine n_sub (i := i) (IHr (by omega)) hB1 (by rw [f1 29 (by decide)]; exact hi) ⟨k2, k3⟩ (by omega) (by rw [f33]; omega) ?_ (n_SB_E hs hE e32 (by rw [e31]; exact Int.le_refl _)) ?_
      · rw [e32]
        unfold n_RM at *
        omega
      · intro s2 D2 H2 O2 z2 l1 l2 l3 l4 l5 l6
        exact K s2 D2 H2 O2 z2 l1 (n_E_tr hE l2 (Int.le_refl _) (by rw [e32]; exact Int.le_refl _) (Nat.le_refl _)) l3 l4 (by rw [l5, e31]) (by rw [l6, e32])
/-- a list's own task -/
theorem n_ls0 (hL : n_LO Z d b P) (hd : 6 ≤ d) (hU : n_MU b) (hh : h = 0 ∨ n_FC P b r (h - 1)) (IHr : 1 ≤ r → ∀ h, n_FC P b (r - 1) h) (hB : n_BI b s D H O Q z) (hi : s.1 29 = (i : Int) + 1) (h44 : s.2 44 i = 0) (h45 : s.2 45 i = f) (hf : 0 ≤ f ∧ f < s.1 17) (hk : s.2 38 f.toNat = 2) (hH : H f.toNat ≤ h) (hr : 12 - s.1 33 ≤ r) (hm : n_RM i (s.1 32) r h) (hs : n_SB s (s.1 31)) (K : n_KF P b s D H O Q z i) : P s := by
  have hF := hB.2.2.1.1
  have hbf := hB.1
  obtain ⟨ff, -, -, hH0⟩ := n_form1 hF hf
  obtain ⟨g1, g2, g3⟩ := hB.2.1
  have hi3 : i < 290 := by unfold n_RM at hm; omega
  have hB1 := n_BI_pop (x := (i : Int)) hB
  have K1 : n_KF P b (n_upd s.1 29 i, s.2) D H O Q z i := by
    intro s' D' H' O' z' k1 k2 k3 k4 k5 k6
    exact K s' D' H' O' z' k1 (n_E_tr n_E_pop k2 (Int.le_refl _) (Int.le_refl _) (Nat.le_refl _)) k3 k4 k5 k6
  obtain ⟨y1, y2, y3, y4⟩ := hF.2.2.1 f.toNat (by omega)
  have y4 := y4 hk
  have h18 := hF.2.1
  obtain ⟨xs, c1, c2, c3⟩ := n_chain hF 1300 (s.2 39 f.toNat) (by rcases y4 with h | h; exact Or.inl h; exact Or.inr ⟨h.1, h.2.1⟩) (by rcases y4 with h | h; exact Or.inr h; exact Or.inl (by omega))
  have hcO : xs ≠ [] → O (s.2 39 f.toNat).toNat = f := by
    intro hne
    rcases y4 with h | h
    · obtain _ | ⟨x, xs⟩ := xs
      · exact absurd rfl hne
      · have := c1.1
        have := c1.2.1
        omega
    · rw [h.2.2]
      omega
  have hc : n_ch s O (s.2 39 f.toNat) f xs := ⟨c1, fun x hx => by
    obtain ⟨e1, e2, e3⟩ := c3 x hx
    exact ⟨⟨e1, e2⟩, by rw [e3]; exact hcO (List.ne_nil_of_mem hx)⟩⟩
  have hXf : n_LX (n_upd s.1 29 i, s.2) f xs := by
    refine ⟨ff, hk, c1, c2, fun x hx => ?_⟩
    obtain ⟨e1, e2⟩ := n_cell1 hF (hc.2 x hx) hf.1
    obtain ⟨f1, f2, f3, -⟩ := n_form1 hF e1
    exact ⟨f1, f2, f3⟩
  have hne : xs ≠ [] → 1 ≤ h := by
    intro hne
    obtain _ | ⟨x, xs⟩ := xs
    · exact absurd rfl hne
    · obtain ⟨e1, e2⟩ := n_cell1 hF (hc.2 x (by simp)) hf.1
      have := (n_form1 hF e1).2.2.2
      omega
  have hI : xs ≠ [] → n_IH P b r (h - 1) i (n_upd s.1 29 i, s.2) D H O Q z f := by
    intro hx
    have h1 := hne hx
    refine ⟨?_, hB1, rfl, hf, by omega, hr, ?_, hs, K1⟩
    · rcases hh with h0 | h0
      · omega
      · exact h0
    · rw [show h - 1 + 1 = h from by omega]
      exact hm
  refine n_go hL hi (by omega) g3 h44 h45 rfl ?_
  refine n_pfL (d := d + 4) (s := (n_upd s.1 29 i, s.2)) (by omega) ff hk ?_
  refine NG_mono (Post := fun r' s' => r' = none ∧ P s') (ng131 (d := d) (xs := xs) hd ?_ ⟨by show 0 ≤ (i : Int); omega, by show (i : Int) < 297; omega⟩ hXf (fun k => ?_) ?_ (fun m q1 q2 q3 q4 => ?_)) (fun r' s' hr' => ⟨hr'.1, rfl, hr'.2⟩)
  · refine ⟨fun a x y op e ho => ⟨rfl, ?_⟩, fun a x y g e => ⟨rfl, ?_⟩, fun a x y g e k1 => ⟨rfl, ?_⟩, fun a x rr e => ⟨rfl, ?_⟩, fun a x y e k1 => ⟨rfl, ?_⟩, fun a x y e => ⟨rfl, ?_⟩, fun a rr vv e hv => ⟨rfl, ?_⟩, rfl, ?_⟩
    · subst e
      exact n_kPair hL hd (hI (by simp)) hc ho
    · subst e
      exact n_kIf hL hd (hI (by simp)) hk hc
    · subst e
      exact n_kLet hL hd (hI (by simp)) k1 hc
    · subst e
      exact n_kDo hL hd (hI (by simp)) hc
    · subst e
      exact n_kSet hL hd (hI (by simp)) hc
    · subst e
      exact n_kRun hL hd (hI (by simp)) hc
    · subst e
      exact n_kCall hL hd (hI (by simp)) hv hc
    · exact hL.1 _ (n_bf_28 (n_bf_pop hbf)) ⟨by show 0 ≤ s.1 30; omega, by show s.1 30 ≤ 260; omega⟩ ⟨by show 0 ≤ (i : Int); omega, by show (i : Int) ≤ 300; omega⟩ rfl
  · show n_rng (s.2 27 k) ∧ n_rng (s.2 28 k)
    rw [hbf.2 27 k (by decide), hbf.2 28 k (by decide)]
    exact hU.2.1 k
  · show 0 ≤ s.1 2 ∧ s.1 2 ≤ 16
    rw [hbf.1 2 (by decide)]
    exact hU.1
  · have h1 := hne q4
    obtain _ | ⟨a, ys⟩ := xs
    · exact absurd rfl q4
    have := n_kMac (h := h - 1) (m := m) hL hd hU (fun h1 => IHr h1 _) hB1 (i := i) rfl hf (by omega) hr (by rw [show h - 1 + 1 = h from by omega]; exact hm) hs K1 hc c2 q1 q2 q3
    exact NG_mono this (fun r' s' hr' => ⟨hr'.1, rfl, hr'.2⟩)
/-- every form -/
theorem n_FC_all (hL : n_LO Z d b P) (hd : 6 ≤ d) (hU : n_MU b) : ∀ r h, n_FC P b r h := by
  intro r
  induction r with
  | zero =>
    intro h
    induction h with
    | zero =>
      intro s D H O Q z i f hB hi h44 h45 hf hH hr hm hs K
      have hi3 : i < 290 := by unfold n_RM at hm; omega
      by_cases hk : s.2 38 f.toNat = 2
      · exact n_ls0 hL hd hU (Or.inl rfl) (fun h => by omega) hB hi h44 h45 hf hk hH hr hm hs K
      · exact n_at0 hL hd hB hi (by omega) h44 h45 hf hk hs K
    | succ h ih =>
      intro s D H O Q z i f hB hi h44 h45 hf hH hr hm hs K
      have hi3 : i < 290 := by unfold n_RM at hm; omega
      by_cases hk : s.2 38 f.toNat = 2
      · exact n_ls0 hL hd hU (Or.inr ih) (fun h => by omega) hB hi h44 h45 hf hk hH hr hm hs K
      · exact n_at0 hL hd hB hi (by omega) h44 h45 hf hk hs K
  | succ r ihr =>
    intro h
    induction h with
    | zero =>
      intro s D H O Q z i f hB hi h44 h45 hf hH hr hm hs K
      have hi3 : i < 290 := by unfold n_RM at hm; omega
      by_cases hk : s.2 38 f.toNat = 2
      · exact n_ls0 (r := r + 1) hL hd hU (Or.inl rfl) (fun _ => ihr) hB hi h44 h45 hf hk hH hr hm hs K
      · exact n_at0 hL hd hB hi (by omega) h44 h45 hf hk hs K
    | succ h ih =>
      intro s D H O Q z i f hB hi h44 h45 hf hH hr hm hs K
      have hi3 : i < 290 := by unfold n_RM at hm; omega
      by_cases hk : s.2 38 f.toNat = 2
      · exact n_ls0 (r := r + 1) (h := h + 1) hL hd hU (Or.inr ih) (fun _ => ihr) hB hi h44 h45 hf hk hH hr hm hs K
      · exact n_at0 hL hd hB hi (by omega) h44 h45 hf hk hs K
end N46
