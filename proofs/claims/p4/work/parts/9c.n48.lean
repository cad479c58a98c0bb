/-! A MACRO'S TEXT READS WELL -/
section N48
variable {ch ch' : Int → Int} {fr : Int}
theorem n_nd_sh (h : ∀ k, 0 ≤ k → ch' k = ch (fr + k)) : ∀ (n : Nat) (p : Int), 0 ≤ p → n_nd ch' n p = n_nd ch n (fr + p) - fr
  | 0, p, hp => by show p = fr + p - fr; omega
  | n + 1, p, hp => by
    unfold n_nd
    rw [h p hp]
    split
    · rw [n_nd_sh h n (p + 1) (by omega), show fr + (p + 1) = fr + p + 1 from by omega]
    · omega
theorem n_nl_sh (h : ∀ k, 0 ≤ k → ch' k = ch (fr + k)) : ∀ (n : Nat) (p : Int), 0 ≤ p → n_nl ch' n p = n_nl ch n (fr + p) - fr
  | 0, p, hp => by show p = fr + p - fr; omega
  | n + 1, p, hp => by
    unfold n_nl
    rw [h p hp]
    split
    · rw [n_nl_sh h n (p + 1) (by omega), show fr + (p + 1) = fr + p + 1 from by omega]
    · omega
theorem n_ae_sh (h : ∀ k, 0 ≤ k → ch' k = ch (fr + k)) {p : Int} (hp : 0 ≤ p) : n_atomEnd ch' p = n_atomEnd ch (fr + p) - fr := by
  have e : n_isNum ch' p = n_isNum ch (fr + p) := by
    unfold n_isNum
    rw [h p hp, h (p + 1) (by omega), show fr + (p + 1) = fr + p + 1 from by omega]
  unfold n_atomEnd n_symEnd
  rw [e, h p hp]
  split
  · split
    · rw [n_nd_sh h 4 (p + 1) (by omega), show fr + (p + 1) = fr + p + 1 from by omega]
    · exact n_nd_sh h 4 p hp
  · split
    · rw [n_nl_sh h 3 (p + 1) (by omega), show fr + (p + 1) = fr + p + 1 from by omega]
    · omega
theorem n_nd_ge : ∀ (n : Nat) (p : Int), p ≤ n_nd ch n p
  | 0, p => Int.le_refl _
  | n + 1, p => by
    unfold n_nd
    split
    · have := n_nd_ge n (p + 1)
      omega
    · exact Int.le_refl _
theorem n_nl_ge : ∀ (n : Nat) (p : Int), p ≤ n_nl ch n p
  | 0, p => Int.le_refl _
  | n + 1, p => by
    unfold n_nl
    split
    · have := n_nl_ge n (p + 1)
      omega
    · exact Int.le_refl _
theorem n_nd_in : ∀ (n : Nat) (p k : Int), p ≤ k → k < n_nd ch n p → c_dig (ch k) = true
  | 0, p, k, h1, h2 => by
    have h2 : k < p := h2
    omega
  | n + 1, p, k, h1, h2 => by
    unfold n_nd at h2
    split at h2
    · rename_i hd
      by_cases hk : k = p
      · rw [hk]; exact hd
      · exact n_nd_in n (p + 1) k (by omega) h2
    · omega
theorem n_nl_in : ∀ (n : Nat) (p k : Int), p ≤ k → k < n_nl ch n p → c_let (ch k) = true
  | 0, p, k, h1, h2 => by
    have h2 : k < p := h2
    omega
  | n + 1, p, k, h1, h2 => by
    unfold n_nl at h2
    split at h2
    · rename_i hd
      by_cases hk : k = p
      · rw [hk]; exact hd
      · exact n_nl_in n (p + 1) k (by omega) h2
    · omega
theorem n_one_dig {c : Int} (h : c_dig c = true) : n_one c = true := by
  unfold c_dig at h
  have := of_decide_eq_true h
  unfold n_one
  exact decide_eq_true (by omega)
theorem n_one_let {c : Int} (h : c_let c = true) : n_one c = true := by
  unfold c_let at h
  have := of_decide_eq_true h
  unfold n_one
  exact decide_eq_true (by omega)
theorem n_one_beg {c : Int} (h : c_beg c = true) : n_one c = true := by
  unfold c_beg at h
  simp only [Bool.or_eq_true] at h
  rcases h with (h | h) | h
  · exact n_one_dig h
  · exact n_one_let h
  · unfold c_sgn at h
    have := of_decide_eq_true h
    unfold n_one
    exact decide_eq_true (by omega)
/-- an atom's characters -/
theorem n_ae_in {p : Int} (hb : n_one (ch p) = true) : p + 1 ≤ n_atomEnd ch p ∧ (∀ k, p ≤ k → k < n_atomEnd ch p → n_one (ch k) = true) := by
  unfold n_atomEnd n_symEnd n_isNum
  split
  · rename_i hn
    by_cases h45 : ch p = 45
    · rw [if_pos h45]
      refine ⟨n_nd_ge _ _, fun k h1 h2 => ?_⟩
      by_cases hk : k = p
      · rw [hk]; exact hb
      · exact n_one_dig (n_nd_in _ _ k (by omega) h2)
    · rw [if_neg h45]
      have hd : c_dig (ch p) = true := by
        simp only [Bool.or_eq_true, Bool.and_eq_true, decide_eq_true_eq] at hn
        rcases hn with hn | hn
        · exact hn
        · exact absurd hn.1 h45
      refine ⟨?_, fun k h1 h2 => n_one_dig (n_nd_in _ _ k h1 h2)⟩
      show p + 1 ≤ (if c_dig (ch p) = true then n_nd ch 3 (p + 1) else p)
      rw [if_pos hd]
      exact n_nd_ge _ _
  · split
    · refine ⟨n_nl_ge _ _, fun k h1 h2 => ?_⟩
      by_cases hk : k = p
      · rw [hk]; exact hb
      · exact n_one_let (n_nl_in _ _ k (by omega) h2)
    · refine ⟨Int.le_refl _, fun k h1 h2 => ?_⟩
      rw [show k = p from by omega]
      exact hb
/-- the same text, read as a macro's -/
theorem n_rp_mac : ∀ (n : Nat) (p o : Int) (ap wh : Bool), n_rp ch false n p o ap wh = -1 → n_rp ch true n p o ap wh = -1
  | 0, p, o, ap, wh, h => h
  | n + 1, p, o, ap, wh, h => by
    by_cases hw : wh = true
    · unfold n_rp
      rw [if_pos ⟨hw, rfl⟩]
    · unfold n_rp at h ⊢
      rw [if_neg (fun k => hw k.1)] at h ⊢
      split
      · rename_i h1
        rw [if_pos h1] at h
        exact n_rp_mac n _ _ _ _ h
      · rename_i h1
        rw [if_neg h1] at h
        split
        · rfl
        · rename_i h2
          rw [if_neg h2] at h
          split
          · rename_i h3
            rw [if_pos h3] at h
            exact n_rp_mac n _ _ _ _ h
          · rename_i h3
            rw [if_neg h3] at h
            split
            · rename_i h4
              rw [if_pos h4] at h
              exact h
            · rename_i h4
              rw [if_neg h4] at h
              split
              · rename_i h5
                rw [if_pos h5] at h
                exact n_rp_mac n _ _ _ _ h
              · rename_i h5
                rw [if_neg h5] at h
                exact n_rp_mac n _ _ _ _ h
/-- more steps change nothing -/
theorem n_rp_more {mac : Bool} : ∀ (n : Nat) (p o : Int) (ap wh : Bool), n_rp ch mac n p o ap wh = -1 → n_rp ch mac (n + 1) p o ap wh = -1
  | 0, p, o, ap, wh, h => absurd (show (-2 : Int) = -1 from h) (by decide)
  | n + 1, p, o, ap, wh, h => by
    rw [n_rp] at h
    rw [n_rp]
    split
    · rfl
    · rename_i h0
      rw [if_neg h0] at h
      split
      · rename_i h1
        rw [if_pos h1] at h
        exact n_rp_more n _ _ _ _ h
      · rename_i h1
        rw [if_neg h1] at h
        split
        · rfl
        · rename_i h2
          rw [if_neg h2] at h
          split
          · rename_i h3
            rw [if_pos h3] at h
            exact n_rp_more n _ _ _ _ h
          · rename_i h3
            rw [if_neg h3] at h
            split
            · rename_i h4
              rw [if_pos h4] at h
              exact h
            · rename_i h4
              rw [if_neg h4] at h
              split
              · rename_i h5
                rw [if_pos h5] at h
                exact n_rp_more n _ _ _ _ h
              · rename_i h5
                rw [if_neg h5] at h
                exact n_rp_more n _ _ _ _ h
theorem n_rp_up {mac : Bool} {n m : Nat} {p o : Int} {ap wh : Bool} (hm : n ≤ m) (h : n_rp ch mac n p o ap wh = -1) : n_rp ch mac m p o ap wh = -1 := by
  obtain ⟨k, rfl⟩ : ∃ k, m = n + k := ⟨m - n, by omega⟩
  clear hm
  induction k with
  | zero => exact h
  | succ k ih => exact n_rp_more _ _ _ _ _ ih
/-- the text from a later place, one list less deep -/
theorem n_rp_sh (hfr : 0 ≤ fr) (hs : ∀ k, 0 ≤ k → ch' k = ch (fr + k)) : ∀ (n : Nat) (p o : Int) (ap : Bool), 0 ≤ p → (1 ≤ o ∧ o ≤ 7) → n_rp ch false n (fr + p) (o + 1) ap false = -1 → n_rp ch' true n p o ap false = -1
  | 0, p, o, ap, _, _, h => absurd (show (-2 : Int) = -1 from h) (by decide)
  | n + 1, p, o, ap, hp, ho, h => by
    have hw : ¬ (false = true ∧ true = true) := by decide
    rw [n_rp] at h
    rw [n_rp]
    rw [if_neg (by decide)] at h
    rw [if_neg (by decide), hs p hp]
    by_cases h1 : ch (fr + p) = 32
    · rw [if_pos h1] at h ⊢
      rw [show fr + p + 1 = fr + (p + 1) from by omega] at h
      exact n_rp_sh hfr hs n (p + 1) o true (by omega) ho h
    · rw [if_neg h1] at h ⊢
      rw [if_neg (by rintro ⟨-, h⟩; cases h)] at h ⊢
      by_cases h3 : ch (fr + p) = 41
      · rw [if_pos ⟨h3, by omega⟩] at h
        rw [if_pos ⟨h3, by omega⟩]
        rw [show fr + p + 1 = fr + (p + 1) from by omega, show o + 1 - 1 = o from by omega, decide_eq_false (by omega)] at h
        by_cases h4 : o = 1
        · rw [decide_eq_true (by omega)]
          obtain _ | n := n
          · exact absurd (show (-2 : Int) = -1 from h) (by decide)
          · rw [n_rp, if_pos ⟨rfl, rfl⟩]
        · rw [decide_eq_false (by omega)]
          refine n_rp_sh hfr hs n (p + 1) (o - 1) true (by omega) ⟨by omega, by omega⟩ ?_
          rw [show o - 1 + 1 = o from by omega]
          exact h
      · rw [if_neg (fun k => h3 k.1)] at h ⊢
        by_cases h5 : (false = true ∨ (¬ ch (fr + p) = 40 ∧ ¬ (c_beg (ch (fr + p)) = true ∧ ap = true)) ∨ (ch (fr + p) = 40 ∧ o + 1 = 8))
        · rw [if_pos h5] at h
          omega
        · rw [if_neg h5] at h
          rw [if_neg (by
            rintro (k | k | k)
            · cases k
            · exact h5 (Or.inr (Or.inl k))
            · omega)]
          by_cases h6 : ch (fr + p) = 40
          · rw [if_pos h6] at h ⊢
            rw [show fr + p + 1 = fr + (p + 1) from by omega] at h
            exact n_rp_sh hfr hs n (p + 1) (o + 1) true (by omega) ⟨by omega, by omega⟩ h
          · rw [if_neg h6] at h ⊢
            rw [if_pos (by omega)] at h ⊢
            have ea := n_ae_sh hs hp
            have hb : n_one (ch (fr + p)) = true := by
              apply n_one_beg
              apply Classical.byContradiction
              intro hc
              exact h5 (Or.inr (Or.inl ⟨h6, fun k => hc k.1⟩))
            have := (n_ae_in hb).1
            refine n_rp_sh hfr hs n _ o false (by omega) ho ?_
            rw [ea, show fr + (n_atomEnd ch (fr + p) - fr) = n_atomEnd ch (fr + p) from by omega]
            exact h
/-- characters of one atom are passed -/
theorem n_4th_pass {cN : Nat → Int} {depth cnt : Int} (hcnt : cnt < 4) : ∀ (j q : Nat) (k : Int), j ≤ q → 0 ≤ k → (∀ i : Int, k ≤ i → i < k + j → n_one (cN i.toNat) = true) → n_4th cN q k cnt depth (decide (depth = 1)) = n_4th cN (q - j) (k + j) cnt depth (decide (depth = 1))
  | 0, q, k, _, _, _ => by
    rw [show q - 0 = q from rfl, show k + ((0 : Nat) : Int) = k from by omega]
  | j + 1, 0, k, hj, _, _ => by omega
  | j + 1, q + 1, k, hj, hk, h => by
    have h1 := h k (Int.le_refl _) (by omega)
    have hb : n_bgn (cN k.toNat) depth (decide (depth = 1)) = false := by
      unfold n_bgn
      refine decide_eq_false ?_
      rintro ⟨h2, h3 | h3⟩
      · unfold n_one at h1
        have := of_decide_eq_true h1
        omega
      · rw [decide_eq_true h2] at h3
        exact absurd h3.2 (by decide)
    have hd : (if cN k.toNat = 40 then (1 : Int) else if cN k.toNat = 41 then -1 else 0) = 0 := by
      unfold n_one at h1
      have := of_decide_eq_true h1
      rw [if_neg this.2.1, if_neg this.2.2]
    have e : n_4th cN (q + 1) k cnt depth (decide (depth = 1)) = n_4th cN q (k + 1) cnt depth (decide (depth = 1)) := by
      rw [n_4th, hb, if_neg (by rw [if_neg (by decide)]; omega), if_neg (by decide), hd, h1, Int.add_zero, Bool.true_and]
    rw [e, n_4th_pass hcnt j q (k + 1) (by omega) (by omega) (fun i h1 h2 => h i (by omega) (by omega)), show q + 1 - (j + 1) = q - j from by omega, show k + 1 + (j : Int) = k + ((j + 1 : Nat) : Int) from by omega]
/-- a list's fourth form begins where reading stands, one list deep -/
theorem n_4th_at {cN : Nat → Int} {len : Int} (h0 : ∀ k, len ≤ k → ch k = 0) (hc : ∀ k, 0 ≤ k → k < len → ch k = cN k.toNat ∧ ¬ ch k = 0) : ∀ (n : Nat) (p o cnt : Int) (ap wh : Bool) (q : Nat), 0 ≤ p → p + q = len → cnt < 4 → (wh = true → o = 0) → 0 ≤ o → n_rp ch false n p o ap wh = -1 → n_4th cN q p cnt o (!ap && decide (o = 1)) = 0 ∨ (0 ≤ n_4th cN q p cnt o (!ap && decide (o = 1)) ∧ n_4th cN q p cnt o (!ap && decide (o = 1)) < len ∧ (ch (n_4th cN q p cnt o (!ap && decide (o = 1))) = 40 ∨ n_one (ch (n_4th cN q p cnt o (!ap && decide (o = 1)))) = true) ∧ ∃ (n' : Nat) (ap' : Bool), n' ≤ n ∧ n_rp ch false n' (n_4th cN q p cnt o (!ap && decide (o = 1))) 1 ap' false = -1)
  | 0, p, o, cnt, ap, wh, q, _, _, _, _, _, h => absurd (show (-2 : Int) = -1 from h) (by decide)
  | n + 1, p, o, cnt, ap, wh, 0, hp, hq, hcnt, hw, ho, h => Or.inl rfl
  | n + 1, p, o, cnt, ap, wh, q + 1, hp, hq, hcnt, hw, ho, h => by
    obtain ⟨c1, c2⟩ := hc p hp (by omega)
    have hrun := h
    rw [n_rp, if_neg (fun k => absurd k.2 (by decide))] at h
    rw [n_4th]
    by_cases h1 : ch p = 32
    · rw [if_pos h1] at h
      have hb : n_bgn (cN p.toNat) o (!ap && decide (o = 1)) = false := by
        unfold n_bgn n_one
        refine decide_eq_false ?_
        rw [← c1, h1]
        rintro ⟨-, h3 | h3⟩
        · omega
        · exact absurd (of_decide_eq_true h3.1).1 (by decide)
      have hn1 : n_one (cN p.toNat) = false := by rw [← c1, h1]; decide
      have := n_4th_at h0 hc n (p + 1) o cnt true wh q (by omega) (by omega) hcnt hw ho h
      rw [hb, if_neg (by rw [if_neg (by decide)]; omega), if_neg (by decide), ← c1, h1, if_neg (by decide), if_neg (by decide), Int.add_zero, show n_one 32 = false from by decide, Bool.false_and]
      rw [show (!true && decide (o = 1)) = false from rfl] at this
      rcases this with this | ⟨t1, t2, t3, n', ap', t4, t5⟩
      · exact Or.inl this
      · exact Or.inr ⟨t1, t2, t3, n', ap', by omega, t5⟩
    · rw [if_neg h1, if_neg (fun k => c2 k.1)] at h
      by_cases h3 : ch p = 41 ∧ 0 < o
      · rw [if_pos h3] at h
        have hb : n_bgn (cN p.toNat) o (!ap && decide (o = 1)) = false := by
          unfold n_bgn n_one
          refine decide_eq_false ?_
          rw [← c1, h3.1]
          rintro ⟨-, h4 | h4⟩
          · omega
          · exact absurd (of_decide_eq_true h4.1).2.2 (by decide)
        have := n_4th_at h0 hc n (p + 1) (o - 1) cnt true (decide (o - 1 = 0)) q (by omega) (by omega) hcnt (fun k => of_decide_eq_true k) (by omega) h
        rw [hb, if_neg (by rw [if_neg (by decide)]; omega), if_neg (by decide), ← c1, h3.1, if_neg (by decide), if_pos rfl, show n_one 41 = false from by decide, Bool.false_and, show o + -1 = o - 1 from by omega]
        rw [show (!true && decide (o - 1 = 1)) = false from rfl] at this
        rcases this with this | ⟨t1, t2, t3, n', ap', t4, t5⟩
        · exact Or.inl this
        · exact Or.inr ⟨t1, t2, t3, n', ap', by omega, t5⟩
      · rw [if_neg h3] at h
        by_cases h5 : (wh = true ∨ (¬ ch p = 40 ∧ ¬ (c_beg (ch p) = true ∧ ap = true)) ∨ (ch p = 40 ∧ o = 8))
        · rw [if_pos h5] at h
          omega
        · rw [if_neg h5] at h
          have hwf : wh = false := by
            cases hwq : wh
            · rfl
            · exact absurd (Or.inl hwq) h5
          by_cases h4 : (if n_bgn (cN p.toNat) o (!ap && decide (o = 1)) = true then cnt + 1 else cnt) = 4
          · rw [if_pos h4]
            have hbt : n_bgn (cN p.toNat) o (!ap && decide (o = 1)) = true := by
              apply Classical.byContradiction
              intro hcn
              rw [if_neg hcn] at h4
              omega
            unfold n_bgn at hbt
            obtain ⟨b1, b2⟩ := of_decide_eq_true hbt
            rw [← c1] at b2
            refine Or.inr ⟨hp, by omega, ?_, n + 1, ap, Nat.le_refl _, ?_⟩
            · rcases b2 with b2 | b2
              · exact Or.inl b2
              · exact Or.inr b2.1
            · rw [hwf, b1] at hrun
              exact hrun
          · rw [if_neg h4]
            have hcnt2 : (if n_bgn (cN p.toNat) o (!ap && decide (o = 1)) = true then cnt + 1 else cnt) < 4 := by
              split at h4 <;> rename_i hq2
              · rw [if_pos hq2]; omega
              · rw [if_neg hq2]; omega
            generalize (if n_bgn (cN p.toNat) o (!ap && decide (o = 1)) = true then cnt + 1 else cnt) = cnt' at hcnt2 ⊢
            by_cases h6 : ch p = 40
            · rw [if_pos h6] at h
              have := n_4th_at h0 hc n (p + 1) (o + 1) cnt' true wh q (by omega) (by omega) hcnt2 (fun k => by rw [hwf] at k; cases k) (by omega) h
              rw [← c1, h6, if_pos rfl, show n_one 40 = false from by decide, Bool.false_and]
              rw [show (!true && decide (o + 1 = 1)) = false from rfl] at this
              rcases this with this | ⟨t1, t2, t3, n', ap', t4, t5⟩
              · exact Or.inl this
              · exact Or.inr ⟨t1, t2, t3, n', ap', by omega, t5⟩
            · rw [if_neg h6] at h
              have hb : n_one (ch p) = true := by
                apply n_one_beg
                apply Classical.byContradiction
                intro hcn
                exact h5 (Or.inr (Or.inl ⟨h6, fun k => hcn k.1⟩))
              obtain ⟨a1, a2⟩ := n_ae_in hb
              have a3 := (n_atomEnd_b h0 c2).2
              have hoo : n_one (cN p.toNat) = true := by rw [← c1]; exact hb
              have h41 : ¬ ch p = 41 := by
                unfold n_one at hb
                exact (of_decide_eq_true hb).2.2
              rw [← c1, if_neg h6, if_neg h41, Int.add_zero, hb, Bool.true_and]
              rw [n_4th_pass hcnt2 (n_atomEnd ch p - (p + 1)).toNat q (p + 1) (by omega) (by omega) (fun i i1 i2 => by
                rw [← (hc i (by omega) (by omega)).1]
                exact a2 i (by omega) (by omega)), show p + 1 + (((n_atomEnd ch p - (p + 1)).toNat : Nat) : Int) = n_atomEnd ch p from by omega]
              have := n_4th_at h0 hc n (n_atomEnd ch p) o cnt' false (if 0 < o then wh else true) (q - (n_atomEnd ch p - (p + 1)).toNat) (by omega) (by omega) hcnt2 (fun k => by
                by_cases ho2 : 0 < o
                · rw [if_pos ho2, hwf] at k
                  cases k
                · omega) ho h
              rw [show (!false && decide (o = 1)) = decide (o = 1) from by simp] at this
              rcases this with this | ⟨t1, t2, t3, n', ap', t4, t5⟩
              · exact Or.inl this
              · exact Or.inr ⟨t1, t2, t3, n', ap', by omega, t5⟩
end N48
