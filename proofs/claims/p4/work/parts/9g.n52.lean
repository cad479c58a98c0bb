/-! THE REFERENCE'S compile -/
def n_CO (s : nS) (r : nA) (s' : nS) : Prop := n_some r (n_MI s' ∧ s'.1 1 = 0 ∧ s'.1 3 = n_read s (-1))
def n_Lk (f u : Int) (a b c e : Option nV) : nL := [some (xR 25), some (xI f), some (xI u), a, b, c, e]
section N52
variable {Z : Nat → List Int32} {d : Nat} {s t : nS} {H O : Nat → Int} {f u w nm n fr v : Int} {a b c e : Option nV} {q4 q5 : Bool} {xs : List Int}
theorem n_c339 (hd : 6 ≤ d) (hM : n_MI (n_upd t.1 1 0, t.2)) (h3 : t.1 3 = n_read s (-1)) : NP Z d 110 339 (n_Lk f u a b c e) [] t (n_CO s) := n_at nb110_339 hd rfl ⟨hM, rfl, h3⟩
theorem n_c339x (hd : 6 ≤ d) (hM : n_MI s) (hc : n_ce s t) (h3 : t.1 3 = n_read s (-1)) : NP Z d 110 339 (n_Lk f u a b c e) [] t (n_CO s) := n_c339 hd (n_MI_ce hM (n_ce_tr hc (n_ce_u (by decide))) rfl) h3
/-- what a unit needs to be kept -/
def n_KC (s t : nS) (f : Int) (q4 q5 : Bool) (n : Int) : Prop := (n_ce s t ∧ t.1 1 = s.1 1 ∧ t.1 3 = n_read s (-1) ∧ n_read s (-1) = -1) ∧ (0 ≤ n ∧ n ≤ 4) ∧ (0 ≤ f ∧ f < 1300) ∧ ((q4 = true ∨ q5 = true) → ∃ (xs : List Int) (x : Int), n_isch t.2 (t.2 39 f.toNat) xs ∧ xs[1]? = some x ∧ (0 ≤ t.2 40 x.toNat ∧ t.2 40 x.toNat < 1300) ∧ n_rng (t.2 39 (t.2 40 x.toNat).toNat)) ∧ (q4 = true → ∀ j : Nat, (j : Int) < n → n_rng (t.2 48 j)) ∧ (q4 = false → n_BR n (if q5 = true then 13 else 14) t ∧ (q5 = false → n = 0))
theorem n_c335 (hd : 6 ≤ d) (hM : n_MI s) (hK : n_KC s t f q4 q5 n) (hw : w = if q4 = true then 2 else if q5 = true then 1 else 0) (hnm : n_rng nm) (h16 : t.1 2 < 16) (hfr : q4 = true → fr = n_4th (t.2 26) (t.1 1).toNat 0 0 0 false) (hfr2 : q4 = false → fr = t.1 1) : NP Z (d + 1) 110 335 (n_Lk f u a b c e) [xI fr, xI n, xI nm, xI w, xR 25] t (n_CO s) := by
  obtain ⟨⟨hc, h1, h3, hrd⟩, hn, hf, -, k1, k2⟩ := hK
  obtain ⟨⟨a1, a2, a3, a4⟩, hU, hX⟩ := hM
  have hUt : n_UI t := n_UI_fr hU (hc.1 2 (by decide)) (fun a i ha => hc.2 a i (by omega))
  have hTt : n_TT t := by
    refine ⟨by rw [h1]; exact a1, fun i => ?_, fun i hi => ?_, fun i => ?_⟩
    · rw [hc.2 26 i (by decide)]; exact a2 i
    · rw [hc.2 26 i (by decide)]; rw [h1] at hi; exact a3 i hi
    · rw [hc.2 36 i (by decide)]; exact a4 i
  have hu0 := hUt.1
  have hrt : n_read t (-1) = -1 := by
    have ea : n_at1 t (-1) = n_at1 s (-1) := by
      funext k
      unfold n_at1
      rw [if_pos (show (-1 : Int) < 0 by decide), if_pos (show (-1 : Int) < 0 by decide), h1, show t.2 26 = s.2 26 from funext (fun i => hc.2 26 i (by decide))]
    unfold n_read at hrd ⊢
    rw [ea]
    exact hrd
  have hall : (0 ≤ fr ∧ fr ≤ t.1 1) ∧ n_U1 (n_kp t w nm n fr) (t.1 2).toNat := by
    cases hq : q4 with
    | true =>
      rw [hq, if_pos rfl] at hw
      rw [hw]
      exact n_kp_mac hu0.1 hTt hn hrt (hfr hq)
    | false =>
      rw [hq, if_neg (by decide)] at hw
      obtain ⟨b1, b2⟩ := k2 hq
      refine ⟨?_, ?_⟩
      · rw [hfr2 hq, h1]; exact ⟨a1.1, Int.le_refl _⟩
      · cases hq5 : q5 with
        | true =>
          rw [hq5] at hw b1
          exact n_kp_new hu0.1 (Or.inr ⟨hw, rfl⟩) hn b1
        | false =>
          rw [hq5] at hw b1
          exact n_kp_new hu0.1 (Or.inl ⟨hw, rfl, b2 hq5⟩) hn b1
  have hw3 : w = 0 ∨ w = 1 ∨ w = 2 := by
    rw [hw]
    cases q4 <;> cases q5 <;> simp
  have hw2 : ¬ w = 2 → q4 = false := by
    intro h
    cases hq : q4 with
    | true => rw [hq, if_pos rfl] at hw; exact absurd hw h
    | false => rfl
  have hw22 : w = 2 → q4 = true := by
    intro h
    cases hq : q4 with
    | true => rfl
    | false =>
      rw [hq, if_neg (by decide), h] at hw
      cases hq5 : q5 <;> rw [hq5] at hw <;> exact absurd hw (by decide)
  have hBR : ¬ w = 2 → (0 ≤ t.1 30 ∧ t.1 30 ≤ 200) ∧ (0 ≤ t.1 34 ∧ t.1 34 ≤ 50) ∧ (∀ j : Nat, (j : Int) < t.1 34 → n_rng (t.2 51 j)) := by
    intro h
    obtain ⟨⟨D, z, -, c2, -, -, -, c6, c7⟩, -⟩ := k2 (hw2 h)
    have := c2.1
    exact ⟨⟨by omega, c6⟩, ⟨by omega, by omega⟩, fun j hj => (c2.2 j hj).1⟩
  have hUk : n_UI (n_kp t w nm n fr) := n_kp_UI hUt h16 hw3 hnm hn (fun h => (hBR h).2.2) (fun h => k1 (hw22 h)) (fun h => (hBR h).2.1.1) hall.2
  refine n_at nb110_335 (by omega) rfl ?_
  refine n_iv (d := d) (vs := [xR 25, xI w, xI nm, xI n, xI fr]) (r := []) nn141 (by simp) rfl nc141 (ng141 hd ⟨hu0.1, h16⟩ hw3 (fun h => ⟨(hBR h).1, (hBR h).2.1⟩) hn hall.1 (by rw [h1]; exact a1.2)) (fun r s' hr => ?_)
  rw [hr.1, hr.2]
  refine n_c339 (by omega) ⟨⟨⟨by show (0 : Int) ≤ 0; decide, by show (0 : Int) ≤ 120; decide⟩, fun i => ?_, fun i hi => ?_, fun i => ?_⟩, n_UI_fr hUk rfl (fun _ _ _ => rfl), n_XI_fr hX (fun k hk => ?_) (fun a i ha => ?_) (fun i => ?_)⟩ ?_
  · show 0 ≤ (n_kp t w nm n fr).2 26 i ∧ (n_kp t w nm n fr).2 26 i < 128
    rw [n_kp_o (by decide)]
    exact hTt.2.1 i
  · have hi : (i : Int) < 0 := hi
    omega
  · show 0 ≤ (n_kp t w nm n fr).2 36 i ∧ (n_kp t w nm n fr).2 36 i < 128
    rw [n_kp36]
    generalize (if w = 2 then (t.1 1 - fr).toNat else 0) = ln
    split
    · have hb := hTt.2.1 (fr.toNat + (i - (120 * t.1 2).toNat))
      have := n_c_id (t.2 26 (fr.toNat + (i - (120 * t.1 2).toNat))).toNat (by omega)
      rw [show (((t.2 26 (fr.toNat + (i - (120 * t.1 2).toNat))).toNat : Nat) : Int) = t.2 26 (fr.toNat + (i - (120 * t.1 2).toNat)) from by omega] at this
      rw [this]
      exact hb
    · exact hTt.2.2.2 i
  · show n_upd (n_upd t.1 2 _) 1 0 k = _
    rw [n_u_ne (by omega), n_u_ne (by omega)]
    exact hc.1 k (by omega)
  · show (n_kp t w nm n fr).2 a i = _
    rw [n_kp_o (by omega)]
    exact hc.2 a i (by omega)
  · show n_rng ((n_kp t w nm n fr).2 52 i)
    rw [n_kp_o (by decide), hc.2 52 i (by decide)]
    exact hX.1 i
  · exact h3
theorem n_c317 (hd : 6 ≤ d) (hM : n_MI s) (hK : n_KC s t f q4 q5 n) (hw : w = if q4 = true then 2 else if q5 = true then 1 else 0) (hnm : n_rng nm) (h16 : t.1 2 < 16) : NP Z (d + 1) 110 317 (n_Lk f u a (some (xI (n_T q4))) c (some (xI n))) [xI nm, xI w, xR 25] t (n_CO s) := by
  obtain ⟨⟨a1, a2, a3, a4⟩, hU, hX⟩ := hM
  have hc := hK.1.1
  have h1 := hK.1.2.1
  refine n_at nb110_317 (by omega) rfl ⟨n_rngT _, fun z => ?_, fun z => ?_⟩
  · have hq := n_T0 z
    refine n_at nb110_331 (by omega) rfl ?_
    exact n_c335 hd ⟨⟨a1, a2, a3, a4⟩, hU, hX⟩ hK hw hnm h16 (fun h => by rw [hq] at h; cases h) (fun _ => rfl)
  · have hq := n_T1 z
    refine n_iv (d := d) (vs := [xR 25]) (r := [xI n, xI nm, xI w, xR 25]) nn140 (by simp) rfl nc140 (ng140 hd (by rw [h1]; exact a1) (fun i => by rw [hc.2 26 i (by decide)]; exact a2 i)) (fun r s' hr => ?_)
    rw [hr.1, hr.2]
    exact n_c335 hd ⟨⟨a1, a2, a3, a4⟩, hU, hX⟩ hK hw hnm h16 (fun _ => rfl) (fun h => by rw [hq] at h; cases h)
theorem n_c292 (hd : 6 ≤ d) (hM : n_MI s) (hK : n_KC s t f q4 q5 n) (hw : w = if q4 = true then 2 else if q5 = true then 1 else 0) (h16 : t.1 2 < 16) : NP Z (d + 1) 110 292 (n_Lk f u a (some (xI (n_T q4))) (some (xI (n_T q5))) (some (xI n))) [xI w, xR 25] t (n_CO s) := by
  have h302 : (q4 = true ∨ q5 = true) → NP Z (d + 1) 110 302 (n_Lk f u a (some (xI (n_T q4))) (some (xI (n_T q5))) (some (xI n))) [xI w, xR 25] t (n_CO s) := by
    intro hq
    obtain ⟨xs, x, x1, x2, x3, x4⟩ := hK.2.2.2.1 hq
    refine n_at nb110_302 (by omega) rfl ?_
    refine n_iv (d := d) (vs := [xR 25, xI f, xI 1]) (r := [xR 39, xI w, xR 25]) nn122 (by simp) rfl nc122 (ng122 hd hK.2.2.1 ⟨by decide, by decide⟩ x1 x2) (fun r s' hr => ?_)
    rw [hr.1, hr.2]
    exact ⟨x3, n_c317 hd hM hK hw x4 h16⟩
  refine n_at nb110_292 (by omega) rfl ⟨n_rngT _, fun z => h302 (Or.inl (n_T1 z)), fun z => ⟨n_rngT _, fun z2 => ?_, fun z2 => h302 (Or.inr (n_T1 z2))⟩⟩
  refine n_at nb110_316 (by omega) rfl ?_
  exact n_c317 hd hM hK hw ⟨by decide, by decide⟩ h16
theorem n_KC_0 {x : Int} (hK : n_KC s t f q4 q5 n) : n_KC s (n_upd t.1 0 x, t.2) f q4 q5 n := by
  obtain ⟨⟨hc, h1, h3, hrd⟩, hn, hf, k0, k1, k2⟩ := hK
  exact ⟨⟨n_ce_tr hc (n_ce_u (by decide)), h1, h3, hrd⟩, hn, hf, k0, k1, k2⟩
/-- behind the making: refuse or keep -/
theorem n_c236 (hd : 6 ≤ d) (hM : n_MI s) (hc : n_ce s t) (h3 : t.1 3 = n_read s (-1)) (h28 : t.1 28 = 0 ∨ t.1 28 = 1) (hK : t.1 28 = 0 → n_KC s t f q4 q5 n) : NP Z (d + 1) 110 236 (n_Lk f u a (some (xI (n_T q4))) (some (xI (n_T q5))) (some (xI n))) [] t (n_CO s) := by
  have hu : 0 ≤ t.1 2 ∧ t.1 2 ≤ 16 := by rw [hc.1 2 (by decide)]; exact hM.2.1.1
  have h262 : ∀ x : Int, (x = 2 ∨ x = 3 ∨ (x = 0 ∧ t.1 28 = 0 ∧ t.1 2 < 16)) → NP Z (d + 1) 110 262 (n_Lk f u a (some (xI (n_T q4))) (some (xI (n_T q5))) (some (xI n))) [xI x, xR 25] t (n_CO s) := by
    intro x hx
    refine n_at nb110_262 (by omega) rfl ⟨⟨by show _ ≤ x; omega, by show x < _; omega⟩, fun z => ?_, fun z => ?_⟩
    · exact n_c339x (by omega) hM (n_ce_tr hc (n_ce_u (by decide))) h3
    · have z : x = 0 := z
      have hx : t.1 28 = 0 ∧ t.1 2 < 16 := by omega
      have hK1 := n_KC_0 (x := x) (hK hx.1)
      refine ⟨n_rngT _, fun z2 => ?_, fun z2 => ?_⟩
      · refine n_at nb110_282 (by omega) rfl ⟨n_rngT _, fun z3 => ?_, fun z3 => ?_⟩
        · refine n_at nb110_291 (by omega) rfl ?_
          exact n_c292 hd hM hK1 (by rw [n_T0 z2, n_T0 z3]; rfl) hx.2
        · exact n_c292 hd hM hK1 (by rw [n_T0 z2, n_T1 z3]; rfl) hx.2
      · exact n_c292 hd hM hK1 (by rw [n_T1 z2]; rfl) hx.2
  refine n_at nb110_236 (by omega) rfl ⟨⟨by omega, by omega⟩, fun z => ?_, fun z => h262 2 (Or.inl rfl)⟩
  have z : t.1 28 = 0 := z
  refine n_at nb110_248 (by omega) rfl ⟨⟨by omega, by omega⟩, ⟨by decide, by decide⟩, fun z2 => ?_, fun z2 => h262 3 (Or.inr (Or.inl rfl))⟩
  have z2 : ¬ t.1 2 = 16 := z2
  exact n_at nb110_261 (by omega) rfl (h262 0 (Or.inr (Or.inr ⟨rfl, z, by omega⟩)))
end N52
