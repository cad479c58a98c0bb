/-! A MACRO IS KEPT: its text reads well; bytes are kept -/
section N49
variable {ch ch' : Int → Int} {fr : Int}
theorem n_ae_ge {p : Int} : p ≤ n_atomEnd ch p := by
  unfold n_atomEnd n_symEnd
  split
  · split
    · have := n_nd_ge (ch := ch) 4 (p + 1)
      omega
    · exact n_nd_ge 4 p
  · split
    · have := n_nl_ge (ch := ch) 3 (p + 1)
      omega
    · omega
theorem n_rp_cg {mac : Bool} (hs : ∀ k, 0 ≤ k → ch' k = ch k) : ∀ (n : Nat) (p o : Int) (ap wh : Bool), 0 ≤ p → n_rp ch' mac n p o ap wh = n_rp ch mac n p o ap wh
  | 0, p, o, ap, wh, _ => rfl
  | n + 1, p, o, ap, wh, hp => by
    have hs0 : ∀ k, 0 ≤ k → ch' k = ch (0 + k) := fun k hk => by rw [hs k hk, Int.zero_add]
    have ea := n_ae_sh hs0 hp
    rw [Int.zero_add, Int.sub_zero] at ea
    have hg := n_ae_ge (ch := ch) (p := p)
    rw [n_rp, n_rp, hs p hp, n_rp_cg hs n (p + 1) o true wh (by omega), n_rp_cg hs n (p + 1) (o - 1) true (decide (o - 1 = 0)) (by omega), n_rp_cg hs n (p + 1) (o + 1) true wh (by omega), ea, n_rp_cg hs n (n_atomEnd ch p) o false (if 0 < o then wh else true) (by omega)]
/-- a macro's text, read from where its body begins -/
theorem n_kept_rd {cN : Nat → Int} {len : Int} (hl : 0 ≤ len) (h0 : ∀ k, len ≤ k → ch k = 0) (hc : ∀ k, 0 ≤ k → k < len → ch k = cN k.toNat ∧ ¬ ch k = 0) (hr : n_rp ch false 200 0 0 true false = -1) (hfr : fr = n_4th cN len.toNat 0 0 0 false) (hs : ∀ k, 0 ≤ k → ch' k = ch (fr + k)) : (0 ≤ fr ∧ fr ≤ len) ∧ n_rp ch' true 200 0 0 true false = -1 := by
  have := n_4th_at h0 hc 200 0 0 0 true false len.toNat (Int.le_refl _) (by omega) (by decide) (fun k => by cases k) (Int.le_refl _) hr
  rw [show (!true && decide ((0 : Int) = 1)) = false from rfl, ← hfr] at this
  rcases this with this | ⟨t1, t2, t3, n', ap', t4, t5⟩
  · refine ⟨⟨by omega, by omega⟩, ?_⟩
    rw [n_rp_cg (ch := ch) (fun k hk => by rw [hs k hk, this, Int.zero_add]) 200 0 0 true false (Int.le_refl _)]
    exact n_rp_mac _ _ _ _ _ hr
  · refine ⟨⟨t1, by omega⟩, n_rp_up (n := n') t4 ?_⟩
    have c2 := (hc fr t1 t2).2
    obtain _ | n := n'
    · exact absurd (show (-2 : Int) = -1 from t5) (by decide)
    have e0 : ch' 0 = ch fr := by rw [hs 0 (Int.le_refl _), Int.add_zero]
    have h32 : ¬ ch fr = 32 := by
      rcases t3 with t3 | t3
      · omega
      · unfold n_one at t3
        exact (of_decide_eq_true t3).1
    have h41 : ¬ ch fr = 41 := by
      rcases t3 with t3 | t3
      · omega
      · unfold n_one at t3
        exact (of_decide_eq_true t3).2.2
    rw [n_rp, if_neg (by decide), if_neg h32, if_neg (fun k => c2 k.1), if_neg (fun k => h41 k.1)] at t5
    rw [n_rp, if_neg (by decide), e0, if_neg h32, if_neg (fun k => c2 k.1), if_neg (fun k => h41 k.1)]
    by_cases h5 : (false = true ∨ (¬ ch fr = 40 ∧ ¬ (c_beg (ch fr) = true ∧ ap' = true)) ∨ (ch fr = 40 ∧ (1 : Int) = 8))
    · rw [if_pos h5] at t5
      omega
    · rw [if_neg h5] at t5
      rw [if_neg (by
        rintro (k | k | k)
        · cases k
        · refine h5 (Or.inr (Or.inl ⟨k.1, fun q => k.2 ⟨q.1, rfl⟩⟩))
        · exact absurd k.2 (by decide))]
      by_cases h6 : ch fr = 40
      · rw [if_pos h6] at t5 ⊢
        exact n_rp_sh t1 hs n 1 1 true (by decide) ⟨by decide, by decide⟩ t5
      · rw [if_neg h6] at t5 ⊢
        obtain _ | n := n
        · exact absurd (show (-2 : Int) = -1 from t5) (by decide)
        · rw [if_neg (by decide), n_rp, if_pos ⟨rfl, rfl⟩]
end N49
theorem n_c_id : ∀ c : Nat, c < 128 → n_c (c : Int) = (c : Int) := by decide +kernel
theorem n_b_op : ∀ c : Nat, c < 128 → n_b (c : Int) = (c : Int) := by decide +kernel
theorem n_b_id {x : Int} (h : 0 ≤ x ∧ x < 128) : n_b x = x := by
  have := n_b_op x.toNat (by omega)
  rw [show ((x.toNat : Nat) : Int) = x from by omega] at this
  exact this
theorem n_b_eq (x : Int) : n_b x = (x.bmod 4294967296).bmod 256 := by
  show ((Int32.ofInt x).toInt8.toInt32).toInt = _
  rw [Int8.toInt_toInt32, Int32.toInt_toInt8, Int32.toInt_ofInt]
theorem n_b_mod (x : Int) : n_b x % 256 = x % 256 := by
  rw [n_b_eq, Int.bmod_def, Int.bmod_def]
  split <;> split <;> omega
theorem n_by_mod (x : Int) : n_by x % 256 = x % 256 := by
  unfold n_by
  rw [n_b_mod]
  have : n_i2b x = n_b x := rfl
  rw [this, n_b_mod]
