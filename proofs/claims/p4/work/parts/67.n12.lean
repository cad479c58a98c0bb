/-! THE REFERENCE READS -/
def c_beg (c : Int) : Bool := c_dig c || c_let c || c_sgn c
def n_isNum (ch : Int → Int) (p : Int) : Bool := c_dig (ch p) || (decide (ch p = 45) && c_dig (ch (p + 1)))
def n_atomEnd (ch : Int → Int) (p : Int) : Int := if n_isNum ch p = true then n_nd ch 4 (if ch p = 45 then p + 1 else p) else n_symEnd ch p
/-- what reading comes to: -1 or the wrong place -/
def n_rp (ch : Int → Int) (mac : Bool) : Nat → Int → Int → Bool → Bool → Int
  | 0, _, _, _, _ => -2
  | n + 1, p, o, ap, wh => if wh = true ∧ mac = true then -1 else if ch p = 32 then n_rp ch mac n (p + 1) o true wh else if ch p = 0 ∧ wh = true then -1 else if ch p = 41 ∧ 0 < o then n_rp ch mac n (p + 1) (o - 1) true (decide (o - 1 = 0)) else if wh = true ∨ (¬ ch p = 40 ∧ ¬ (c_beg (ch p) = true ∧ ap = true)) ∨ (ch p = 40 ∧ o = 8) then p else if ch p = 40 then n_rp ch mac n (p + 1) (o + 1) true wh else n_rp ch mac n (n_atomEnd ch p) o false (if 0 < o then wh else true)
theorem n_atomEnd_b {ch : Int → Int} {len p : Int} (h0 : ∀ k, len ≤ k → ch k = 0) (hp : ¬ ch p = 0) : p + 1 ≤ n_atomEnd ch p ∧ n_atomEnd ch p ≤ len := by
  have hlt : p < len := by
    apply Classical.byContradiction
    intro hc
    exact hp (h0 p (by omega))
  unfold n_atomEnd
  split
  · rename_i hn
    split
    · rename_i h45
      exact n_nd_b h0 4 (p + 1) (by omega)
    · rename_i h45
      have hd : c_dig (ch p) = true := by
        unfold n_isNum at hn
        simpa [h45] using hn
      have e : n_nd ch 4 p = n_nd ch 3 (p + 1) := by
        show (if c_dig (ch p) = true then _ else _) = _
        rw [if_pos hd]
      rw [e]
      exact n_nd_b h0 3 (p + 1) (by omega)
  · unfold n_symEnd
    split
    · exact n_nl_b h0 3 (p + 1) (by omega)
    · exact ⟨by omega, by omega⟩
theorem n_fr_at {b s : nS} {m k : Int} (h : n_fr b s) : n_at1 s m k = n_at1 b m k := by
  unfold n_at1
  rw [h.1 1 (by decide), h.2 26 _ (by decide), h.2 36 _ (by decide), h.2 37 _ (by decide)]
theorem n_fr_TX {b s : nS} {m : Int} (h : n_fr b s) (ht : n_TX b m) : n_TX s m := by
  obtain ⟨t1, t2, t3, t4, t5⟩ := ht
  refine ⟨by rw [h.1 1 (by decide)]; exact t1, t2, fun h0 => by rw [h.2 37 _ (by decide)]; exact t3 h0, fun i => by rw [h.2 26 _ (by decide)]; exact t4 i, fun i => by rw [h.2 36 _ (by decide)]; exact t5 i⟩
theorem n_isch_old {b s : nS} {Hb Ob H O : Nat → Int} (h : n_old b Hb Ob s H O) : ∀ (ys : List Int) (g : Int), n_isch b.2 g ys → (∀ y ∈ ys, 0 ≤ y ∧ y < b.1 18) → n_isch s.2 g ys
  | [], g, hg, _ => hg
  | y :: ys, g, hg, hy => by
    obtain ⟨g1, g2, g3, g4⟩ := hg
    have hy0 := hy y List.mem_cons_self
    refine ⟨g1, g2, g3, ?_⟩
    rw [(h.2.2.2 y.toNat (by omega)).2.1]
    exact n_isch_old h ys _ g4 (fun z hz => hy z (List.mem_cons_of_mem _ hz))
def n_RN (b s : nS) (m B : Int) (H : Nat → Int) (wh ap : Int) : Prop := (0 ≤ s.1 23 ∧ s.1 23 ≤ n_lenT b m) ∧ (0 ≤ s.1 25 ∧ s.1 25 ≤ 8) ∧ 4 * (s.1 17 - b.1 17) ≤ 3 * s.1 23 + 2 * s.1 25 + (1 - ap) ∧ 4 * (s.1 18 - b.1 18) ≤ 3 * s.1 23 + 2 * s.1 25 + (1 - ap) ∧ (wh = -1 ∨ (0 ≤ wh ∧ wh < s.1 17 ∧ H wh.toNat ≤ B + 8 ∧ s.1 25 = 0))
/-- the same, hidden from arithmetic -/
def n_rpE (ch : Int → Int) (mac : Bool) (n : Nat) (p o : Int) (ap wh : Bool) (W : Int) : Prop := n_rp ch mac n p o ap wh = W
/-- what reading is given -/
def n_CX (b : nS) (Hb Ob : Nat → Int) (m B g : Int) (ys : List Int) : Prop := n_TX b m ∧ 0 ≤ B ∧ (0 ≤ b.1 17 ∧ b.1 17 ≤ 1200) ∧ (0 ≤ b.1 18 ∧ b.1 18 ≤ 1200) ∧ (0 ≤ m → 0 ≤ b.2 29 m.toNat ∧ b.2 29 m.toNat ≤ 4 ∧ b.2 29 m.toNat ≤ ys.length) ∧ (∀ i, n_rng (b.2 35 i)) ∧ n_isch b.2 g ys ∧ ys.length < 10000 ∧ (∀ y ∈ ys, (0 ≤ y ∧ y < b.1 18) ∧ (0 ≤ b.2 40 y.toNat ∧ b.2 40 y.toNat < b.1 17) ∧ Hb (b.2 40 y.toNat).toNat ≤ B)
/-- what its end must give -/
def n_PX (b : nS) (Hb Ob : Nat → Int) (B : Int) (Post : nA → nS → Prop) (W : Int) : Prop := (W = -1 → ∀ s H O wh, n_RW b Hb Ob B s H O → 0 ≤ wh → wh < s.1 17 → H wh.toNat ≤ B + 8 → s.1 17 - b.1 17 ≤ 95 → s.1 18 - b.1 18 ≤ 95 → s.1 24 = -1 → Post (some wh) s) ∧ (0 ≤ W → ∀ s wh, n_fr b s → s.1 24 = W → Post (some wh) s)
def n_L10 (m fr g wh : Int) (ap : Bool) (o6 o7 o8 o9 : Option nV) : nL := [some (xR 25), some (xI m), some (xI fr), some (xI g), some (xI wh), some (xI (n_T ap)), o6, o7, o8, o9]
/-- the loop goes on from a later place -/
def n_BK (Z : Nat → List Int32) (d : Nat) (b : nS) (Hb Ob : Nat → Int) (m B g fr : Int) (Post : nA → nS → Prop) (W : Int) (n : Nat) : Prop := ∀ (s : nS) (H O : Nat → Int) (wh : Int) (ap : Bool) (o6 o7 o8 o9 : Option nV), n_RW b Hb Ob B s H O → n_RN b s m B H wh (n_T ap) → s.1 24 = -1 → n_lenT b m - s.1 23 < n → n_rpE (n_at1 b m) (decide (0 ≤ m)) n (s.1 23) (s.1 25) ap (decide (0 ≤ wh)) W → NP Z (d + 2) 111 21 (n_L10 m fr g wh ap o6 o7 o8 o9) [] s Post
section N12
variable {Z : Nat → List Int32} {d n : Nat} {b s : nS} {Hb Ob H O : Nat → Int} {m B g fr wh W c : Int} {ap : Bool} {ys : List Int} {Post : nA → nS → Prop}
theorem n_bk (hd : 6 ≤ d) (hK : n_BK Z d b Hb Ob m B g fr Post W n) (p6 p7 p8 p9 : Option nV) {s1 : nS} {H1 O1 : Nat → Int} {wh1 : Int} {ap1 : Bool} (h1 : n_RW b Hb Ob B s1 H1 O1) (h2 : n_RN b s1 m B H1 wh1 (n_T ap1)) (h3 : s1.1 24 = -1) (h4 : n_lenT b m - s1.1 23 < n) (h5 : n_rpE (n_at1 b m) (decide (0 ≤ m)) n (s1.1 23) (s1.1 25) ap1 (decide (0 ≤ wh1)) W) : NP Z (d + 2) 111 381 (n_L10 m fr g wh1 ap1 p6 p7 p8 p9) [] s1 Post := n_at nb111_381 (by omega) rfl (hK s1 H1 O1 wh1 ap1 p6 p7 p8 p9 h1 h2 h3 h4 h5)
/-- an atom is read: it is x -/
theorem n_l356 {s1 : nS} {H1 : Nat → Int} {x y8 : Int} {p6 p7 p9 : Option nV} (hd : 6 ≤ d) (hK : n_BK Z d b Hb Ob m B g fr Post W n) (hb : (0 ≤ b.1 17 ∧ b.1 17 ≤ 1200) ∧ (0 ≤ b.1 18 ∧ b.1 18 ≤ 1200)) (hB : 0 ≤ B) (hlen : n_lenT b m ≤ 120) (r1 : n_RW b Hb Ob B s1 H1 O) (a0 : 0 ≤ s1.1 23 ∧ s1.1 23 ≤ n_lenT b m) (a1 : n_lenT b m - s1.1 23 < n) (a2 : 0 ≤ s1.1 25 ∧ s1.1 25 ≤ 8) (a3 : s1.1 24 = -1) (a4 : 4 * (s1.1 17 - b.1 17) ≤ 3 * s1.1 23 + 2 * s1.1 25 + 1) (a5 : 4 * (s1.1 18 + 1 - b.1 18) ≤ 3 * s1.1 23 + 2 * s1.1 25 + 1) (a6 : 0 ≤ x ∧ x < s1.1 17) (a7 : H1 x.toNat ≤ B) (hwn : wh = -1) (hrp : n_rpE (n_at1 b m) (decide (0 ≤ m)) n (s1.1 23) (s1.1 25) false (if 0 < s1.1 25 then false else true) W) : NP Z (d + 2) 111 356 (n_L10 m fr g wh ap p6 p7 (some (xI y8)) p9) [xI x] s1 Post := by
  have hFI1 := r1.2.1
  have hapf : n_T false = 0 := rfl
  have h378 : ∀ (s2 : nS) (H2 O2 : Nat → Int) (wh2 : Int), n_RW b Hb Ob B s2 H2 O2 → n_RN b s2 m B H2 wh2 0 → s2.1 24 = -1 → s2.1 23 = s1.1 23 → s2.1 25 = s1.1 25 → decide (0 ≤ wh2) = (if 0 < s1.1 25 then false else true) → NP Z (d + 2) 111 378 (n_L10 m fr g wh2 ap p6 p7 (some (xI y8)) (some (xI x))) [] s2 Post := by
    intro s2 H2 O2 wh2 q1 q2 q3 q4 q5 q6
    refine n_at nb111_378 (by omega) rfl ?_
    exact n_bk (ap1 := false) hd hK p6 p7 (some (xI y8)) (some (xI x)) q1 (by rw [hapf]; exact q2) q3 (by rw [q4]; exact a1) (by rw [q4, q5, q6]; exact hrp)
  refine n_at nb111_356 (by omega) rfl ?_
  refine ⟨⟨by omega, by omega⟩, fun z => ?_, fun z => ?_⟩
  · refine n_at nb111_374 (by omega) rfl ?_
    refine h378 s1 H1 O x r1 ⟨a0, a2, by omega, by omega, Or.inr ⟨a6.1, a6.2, by omega, by omega⟩⟩ a3 rfl rfl ?_
    rw [if_neg (by omega)]
    exact decide_eq_true a6.1
  · have hLV := r1.2.2.2 (s1.1 25).toNat (by omega) (by omega)
    obtain ⟨⟨v1, v2⟩, v3, v4⟩ := hLV
    have hj := ng117 (Z := Z) (d := d + 1) (s := s1) (f := x) (by omega) ⟨hFI1.2.1.1, by omega⟩ ⟨by omega, by omega⟩ ⟨by rcases v4 with v4 | v4; rw [v4]; exact ⟨by decide, by decide⟩; exact ⟨by omega, by omega⟩, by rcases v4 with v4 | v4 <;> omega⟩ ⟨by omega, by omega⟩
    refine n_iv (vs := [xR 25, xI x]) (r := []) nn117 (by simp) rfl nc117 hj (fun r s' hr => ?_)
    rw [hr.1, hr.2]
    have hRW := n_RW_jn (f := x) r1 ⟨hb.1.1, hb.2.1⟩ (by omega) (by omega) a6 (by omega)
    refine h378 (n_jn s1 x) H1 _ wh hRW ⟨a0, a2, ?_, ?_, Or.inl hwn⟩ a3 rfl rfl ?_
    · show 4 * (s1.1 17 - b.1 17) ≤ 3 * s1.1 23 + 2 * s1.1 25 + (1 - 0); omega
    · show 4 * (s1.1 18 + 1 - b.1 18) ≤ 3 * s1.1 23 + 2 * s1.1 25 + (1 - 0); omega
    · rw [if_pos (by omega), hwn]
      rfl
/-- what holds at a character -/
def n_SX (b : nS) (Hb Ob : Nat → Int) (m B : Int) (s : nS) (H O : Nat → Int) (wh : Int) (ap : Bool) : Prop := n_RW b Hb Ob B s H O ∧ n_RN b s m B H wh (n_T ap) ∧ s.1 24 = -1
/-- an atom -/
theorem n_l335 {o9 : Option nV} {p6 p7 : Int} {o8 : Option nV} (hd : 6 ≤ d) (hC : n_CX b Hb Ob m B g ys) (hK : n_BK Z d b Hb Ob m B g fr Post W n) (hS : n_SX b Hb Ob m B s H O wh true) (hn : n_lenT b m - s.1 23 ≤ n) (hwn : wh = -1) (hc : ¬ n_at1 b m (s.1 23) = 0) (hrp : n_rpE (n_at1 b m) (decide (0 ≤ m)) n (n_atomEnd (n_at1 b m) (s.1 23)) (s.1 25) false (if 0 < s.1 25 then false else true) W) : NP Z (d + 2) 111 335 (n_L10 m fr g wh true (some (xI p6)) (some (xI p7)) o8 o9) [xI (n_T (n_isNum (n_at1 b m) (s.1 23)))] s Post := by
  obtain ⟨hT, hB, h17, h18, hp, hw, hg, hl, hy⟩ := hC
  obtain ⟨hR, ⟨N1, N2, N3, N4, N5⟩, h24⟩ := hS
  have hlen := n_len_b hT
  have hfr := hR.1
  have hTs := n_fr_TX hfr hT
  have hFI := hR.2.1
  have h0 : ∀ k, n_lenT b m ≤ k → n_at1 b m k = 0 := fun k hk => n_at1_0 hk
  have hfun : n_at1 s m = n_at1 b m := funext fun k => n_fr_at hfr
  have hRWP := fun x => n_RW_P (x := x) hR
  have hae := n_atomEnd_b h0 hc
  have hT1 : n_T true = 1 := rfl
  rw [hT1] at N3 N4
  have hold := hR.2.2.1
  have f17 : 0 ≤ s.1 17 ∧ s.1 17 < 1299 := ⟨hFI.1.1, by omega⟩
  refine n_at nb111_335 (by omega) rfl ?_
  refine ⟨n_rngT _, fun z => ?_, fun z => ?_⟩
  · have hnn : n_isNum (n_at1 b m) (s.1 23) = false := by
      cases hq : n_isNum (n_at1 b m) (s.1 23)
      · rfl
      · rw [hq] at z; exact absurd z (by decide)
    have hae2 : n_atomEnd (n_at1 b m) (s.1 23) = n_symEnd (n_at1 b m) (s.1 23) := by
      unfold n_atomEnd
      rw [hnn, if_neg (by decide)]
    rw [hae2] at hae hrp
    refine n_at nb111_350 (by omega) rfl ?_
    have hs := ng119 (Z := Z) (d := d) (s := s) (m := m) (g := g) (ys := ys) hd hTs ⟨hFI.1.1, by omega⟩ ⟨by omega, by omega⟩ (fun h => by rw [hfr.2 29 _ (by decide)]; exact hp h) (fun i => by rw [hfr.2 35 _ (by decide)]; exact hw i) (n_isch_old hold ys g hg (fun y hyy => (hy y hyy).1)) hl
    rw [hfun] at hs
    refine n_iv (d := d + 1) (vs := [xR 25, xI m, xI g]) (r := []) nn119 (by simp) rfl nc119 hs (fun r s' hr => ?_)
    rcases hr with ⟨e1, v, hv, e2⟩ | ⟨y, hyy, e1, e2⟩
    · rw [e1, e2]
      have hmk := n_RW_mk (w := 1) (v := v) (hh := 0) (hRWP (n_symEnd (n_at1 b m) (s.1 23))) h17.1 (by show s.1 17 < 1300; omega) (by decide) (fun _ => hv) (fun h => absurd h (by decide)) (by decide)
      refine n_l356 (x := s.1 17) hd hK ⟨h17, h18⟩ hB hlen.2 hmk ?_ ?_ ?_ h24 ?_ ?_ ?_ ?_ hwn hrp
      · show 0 ≤ n_symEnd (n_at1 b m) (s.1 23) ∧ n_symEnd (n_at1 b m) (s.1 23) ≤ _; omega
      · show _ - n_symEnd (n_at1 b m) (s.1 23) < _; omega
      · exact N2
      · show 4 * (s.1 17 + 1 - b.1 17) ≤ 3 * n_symEnd (n_at1 b m) (s.1 23) + 2 * s.1 25 + 1; omega
      · show 4 * (s.1 18 + 1 - b.1 18) ≤ 3 * n_symEnd (n_at1 b m) (s.1 23) + 2 * s.1 25 + 1; omega
      · show 0 ≤ s.1 17 ∧ s.1 17 < s.1 17 + 1; omega
      · show n_upd H (s.1 17).toNat 0 (s.1 17).toNat ≤ B
        rw [n_u_eq]
        exact hB
    · rw [e1, e2]
      obtain ⟨q1, q2, q3⟩ := hy y hyy
      have e40 := (hold.2.2.2 y.toNat (by omega)).1
      rw [e40]
      refine n_l356 (x := b.2 40 y.toNat) (H1 := H) hd hK ⟨h17, h18⟩ hB hlen.2 (hRWP (n_symEnd (n_at1 b m) (s.1 23))) ?_ ?_ ?_ h24 ?_ ?_ ?_ ?_ hwn hrp
      · show 0 ≤ n_symEnd (n_at1 b m) (s.1 23) ∧ n_symEnd (n_at1 b m) (s.1 23) ≤ _; omega
      · show _ - n_symEnd (n_at1 b m) (s.1 23) < _; omega
      · exact N2
      · show 4 * (s.1 17 - b.1 17) ≤ 3 * n_symEnd (n_at1 b m) (s.1 23) + 2 * s.1 25 + 1; omega
      · show 4 * (s.1 18 + 1 - b.1 18) ≤ 3 * n_symEnd (n_at1 b m) (s.1 23) + 2 * s.1 25 + 1; omega
      · show 0 ≤ b.2 40 y.toNat ∧ b.2 40 y.toNat < s.1 17
        have := hold.1
        omega
      · rw [(hold.2.2.1 (b.2 40 y.toNat).toNat (by omega)).2.2]
        exact q3
  · have hnn : n_isNum (n_at1 b m) (s.1 23) = true := by
      cases hq : n_isNum (n_at1 b m) (s.1 23)
      · rw [hq] at z; exact absurd rfl z
      · rfl
    have hs := ng118 (Z := Z) (d := d) (s := s) (m := m) hd hTs ⟨hFI.1.1, by omega⟩ ⟨by omega, by omega⟩
    rw [hfun] at hs
    have hae2 : n_atomEnd (n_at1 b m) (s.1 23) = n_nd (n_at1 b m) 4 (if n_at1 b m (s.1 23) = 45 then s.1 23 + 1 else s.1 23) := by
      unfold n_atomEnd
      rw [if_pos hnn]
    rw [← hae2] at hs
    generalize n_atomEnd (n_at1 b m) (s.1 23) = E at hae hrp hs
    refine n_iv (d := d + 1) (vs := [xR 25, xI m]) (r := []) nn118 (by simp) rfl nc118 hs (fun r s' hr => ?_)
    obtain ⟨e1, v, e2⟩ := hr
    rw [e1, e2]
    have hmk := n_RW_mk (w := 0) (v := v) (hh := 0) (hRWP E) h17.1 (by show s.1 17 < 1300; omega) (by decide) (fun h => absurd rfl h) (fun h => absurd h (by decide)) (by decide)
    refine n_l356 (x := s.1 17) hd hK ⟨h17, h18⟩ hB hlen.2 hmk ?_ ?_ ?_ h24 ?_ ?_ ?_ ?_ hwn hrp
    · show 0 ≤ E ∧ E ≤ _; omega
    · show _ - E < _; omega
    · exact N2
    · show 4 * (s.1 17 + 1 - b.1 17) ≤ 3 * E + 2 * s.1 25 + 1; omega
    · show 4 * (s.1 18 + 1 - b.1 18) ≤ 3 * E + 2 * s.1 25 + 1; omega
    · show 0 ≤ s.1 17 ∧ s.1 17 < s.1 17 + 1; omega
    · show n_upd H (s.1 17).toNat 0 (s.1 17).toNat ≤ B
      rw [n_u_eq]
      exact hB
end N12
