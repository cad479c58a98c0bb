/-! WHAT THE CLASS READS: the same words as the reference's. An atom under way: 0 none, 1 a number, 2 letters, 3 the minus, 4 another sign; how long it is -/
def c_ext (q L : Nat) (k : Int) : Bool := (decide (q = 1) && c_dig k && decide (L < 4)) || (decide (q = 2) && c_let k && decide (L < 4)) || (decide (q = 3) && c_dig k)
def c_nq (q : Nat) : Nat := if q = 3 then 1 else q
def c_nL (q L : Nat) : Nat := if q = 3 then 1 else L + 1
def c_bq (k : Int) : Nat := if c_dig k = true then 1 else if c_let k = true then 2 else if k = 45 then 3 else 4
/-- where the atom under way ends -/
def c_ae (ch : Int → Int) (q L : Nat) (i : Int) : Int := if q = 1 then n_nd ch (4 - L) i else if q = 2 then n_nl ch (4 - L) i else if q = 3 then (if c_dig (ch i) = true then n_nd ch 4 i else i) else i
section H1
variable {ch : Int → Int} {q L n : Nat} {i k W D : Int}
theorem c_nd_s {m : Nat} (h : c_dig (ch i) = true) : n_nd ch (m + 1) i = n_nd ch m (i + 1) := by
  show (if c_dig (ch i) = true then _ else _) = _
  rw [if_pos h]
theorem c_nd_e {m : Nat} (h : ¬ c_dig (ch i) = true) : n_nd ch m i = i := by
  cases m with
  | zero => rfl
  | succ m =>
    show (if c_dig (ch i) = true then _ else _) = _
    rw [if_neg h]
theorem c_nl_s {m : Nat} (h : c_let (ch i) = true) : n_nl ch (m + 1) i = n_nl ch m (i + 1) := by
  show (if c_let (ch i) = true then _ else _) = _
  rw [if_pos h]
theorem c_nl_e {m : Nat} (h : ¬ c_let (ch i) = true) : n_nl ch m i = i := by
  cases m with
  | zero => rfl
  | succ m =>
    show (if c_let (ch i) = true then _ else _) = _
    rw [if_neg h]
theorem c_ext_iff : c_ext q L k = true ↔ (q = 1 ∧ c_dig k = true ∧ L < 4) ∨ (q = 2 ∧ c_let k = true ∧ L < 4) ∨ (q = 3 ∧ c_dig k = true) := by
  unfold c_ext
  simp only [Bool.or_eq_true, Bool.and_eq_true, decide_eq_true_eq]
  constructor
  · rintro ((⟨⟨a, b⟩, c⟩ | ⟨⟨a, b⟩, c⟩) | ⟨a, b⟩)
    · exact Or.inl ⟨a, b, c⟩
    · exact Or.inr (Or.inl ⟨a, b, c⟩)
    · exact Or.inr (Or.inr ⟨a, b⟩)
  · rintro (⟨a, b, c⟩ | ⟨a, b, c⟩ | ⟨a, b⟩)
    · exact Or.inl (Or.inl ⟨⟨a, b⟩, c⟩)
    · exact Or.inl (Or.inr ⟨⟨a, b⟩, c⟩)
    · exact Or.inr ⟨a, b⟩
theorem c_ae_s (h : c_ext q L (ch i) = true) : c_ae ch q L i = c_ae ch (c_nq q) (c_nL q L) (i + 1) := by
  rcases c_ext_iff.mp h with ⟨e, h1, h2⟩ | ⟨e, h1, h2⟩ | ⟨e, h1⟩
  · subst e
    show n_nd ch (4 - L) i = n_nd ch (4 - (L + 1)) (i + 1)
    rw [show 4 - L = (4 - (L + 1)) + 1 from by omega]
    exact c_nd_s h1
  · subst e
    show n_nl ch (4 - L) i = n_nl ch (4 - (L + 1)) (i + 1)
    rw [show 4 - L = (4 - (L + 1)) + 1 from by omega]
    exact c_nl_s h1
  · subst e
    show (if c_dig (ch i) = true then n_nd ch 4 i else i) = n_nd ch 3 (i + 1)
    rw [if_pos h1]
    exact c_nd_s h1
theorem c_ae_e (h : ¬ c_ext q L (ch i) = true) : c_ae ch q L i = i := by
  rw [c_ext_iff] at h
  unfold c_ae
  split
  · rename_i e
    by_cases h2 : L < 4
    · exact c_nd_e (fun h1 => h (Or.inl ⟨e, h1, h2⟩))
    · rw [show 4 - L = 0 from by omega]
      rfl
  · split
    · rename_i e
      by_cases h2 : L < 4
      · exact c_nl_e (fun h1 => h (Or.inr (Or.inl ⟨e, h1, h2⟩)))
      · rw [show 4 - L = 0 from by omega]
        rfl
    · split
      · rename_i e
        rw [if_neg (fun h1 => h (Or.inr (Or.inr ⟨e, h1⟩)))]
      · rfl
theorem c_ae_b (h : c_beg (ch i) = true) : n_atomEnd ch i = c_ae ch (c_bq (ch i)) 1 (i + 1) := by
  unfold n_atomEnd n_isNum c_bq
  by_cases h1 : c_dig (ch i) = true
  · rw [if_pos h1, h1]
    have h45 : ¬ ch i = 45 := fun e => by rw [e] at h1; exact absurd h1 (by decide)
    rw [if_pos (by simp), if_neg h45]
    show n_nd ch 4 i = n_nd ch 3 (i + 1)
    exact c_nd_s h1
  · rw [if_neg h1]
    by_cases h2 : c_let (ch i) = true
    · rw [if_pos h2]
      have h45 : ¬ ch i = 45 := fun e => by rw [e] at h2; exact absurd h2 (by decide)
      rw [if_neg (by simp [h1, h45])]
      unfold n_symEnd
      rw [if_pos h2]
      rfl
    · rw [if_neg h2]
      by_cases h3 : ch i = 45
      · rw [if_pos h3, h3]
        show (if (c_dig 45 || (decide ((45 : Int) = 45) && c_dig (ch (i + 1)))) = true then n_nd ch 4 (if (45 : Int) = 45 then i + 1 else i) else n_symEnd ch i) = (if c_dig (ch (i + 1)) = true then n_nd ch 4 (i + 1) else i + 1)
        rw [show (c_dig 45 || (decide ((45 : Int) = 45) && c_dig (ch (i + 1)))) = c_dig (ch (i + 1)) from by
          have : c_dig 45 = false := by decide
          rw [this]
          simp, if_pos (show (45 : Int) = 45 from rfl)]
        split
        · rfl
        · unfold n_symEnd
          rw [if_neg h2]
      · simp only [if_neg h3]
        rw [if_neg (by simp [h1, h3])]
        unfold n_symEnd
        rw [if_neg h2]
        rfl
/-- the reading goes the same way -/
theorem c_r32 {ap wh : Bool} (h : n_rpE ch false (n + 1) i D ap wh W) (hk : ch i = 32) : n_rpE ch false n (i + 1) D true wh W := n_rpE_2 h (by simp) hk
theorem c_r41 {ap wh : Bool} (h : n_rpE ch false (n + 1) i D ap wh W) (hk : ch i = 41) (hD : 0 < D) : n_rpE ch false n (i + 1) (D - 1) true (decide (D - 1 = 0)) W := n_rpE_4 h (by simp) (by omega) (fun e => by omega) ⟨hk, hD⟩
theorem c_r40 {ap : Bool} (h : n_rpE ch false (n + 1) i D ap false W) (hk : ch i = 40) (hD : D < 8) : n_rpE ch false n (i + 1) (D + 1) true false W := n_rpE_6 h (by simp) (by omega) (fun e => by omega) (fun e => by omega) (fun e => by
  rcases e with e | e | e
  · exact absurd e (by decide)
  · exact e.1 hk
  · omega) hk
theorem c_rbg (h : n_rpE ch false (n + 1) i D true false W) (h1 : ¬ ch i = 32) (h2 : ¬ ch i = 40) (h3 : ¬ ch i = 41) (hb : c_beg (ch i) = true) : n_rpE ch false n (c_ae ch (c_bq (ch i)) 1 (i + 1)) D false (if 0 < D then false else true) W := by
  have := n_rpE_7 h (by simp) h1 (fun e => absurd e.2 (by decide)) (fun e => h3 e.1) (fun e => by
    rcases e with e | e | e
    · exact absurd e (by decide)
    · exact e.2 ⟨hb, rfl⟩
    · exact h2 e.1) h2
  rw [c_ae_b hb] at this
  exact this
theorem c_rer {ap wh : Bool} (h : n_rpE ch false (n + 1) i D ap wh W) (h0 : ¬ ch i = 0) (h1 : ¬ ch i = 32) (h3 : ¬ (ch i = 41 ∧ 0 < D)) (he : wh = true ∨ (¬ ch i = 40 ∧ ¬ (c_beg (ch i) = true ∧ ap = true)) ∨ (ch i = 40 ∧ D = 8)) : W = i := n_rpE_5 h (by simp) h1 (fun e => h0 e.1) h3 he
theorem c_rend {ap wh : Bool} (h : n_rpE ch false (n + 1) i D ap wh W) (h0 : ch i = 0) : W = if wh = true then -1 else i := by
  cases wh with
  | true =>
    rw [if_pos rfl]
    exact n_rpE_3 h (by simp) (by omega) ⟨h0, rfl⟩
  | false =>
    rw [if_neg (by decide)]
    exact n_rpE_5 h (by simp) (by omega) (fun e => absurd e.2 (by decide)) (fun e => by omega) (Or.inr (Or.inl ⟨by omega, fun e => by
      have := e.1
      rw [h0] at this
      exact absurd this (by decide)⟩))
/-- eight bits more -/
theorem n_lo {v c : Int} (hc : 0 ≤ c ∧ c < 256) : n_or (n_shl v 8) c % 256 = c := by
  unfold n_or n_shl
  rw [n_back]
  have e8 : Int32.ofInt 8 &&& 31 = 8 := by decide
  rw [e8]
  have key : (Int32.ofInt v <<< (8 : Int32) ||| Int32.ofInt c) &&& Int32.ofInt 255 = Int32.ofInt c := by
    apply Int32.toBitVec_inj.mp
    have e1 : (Int32.ofInt v <<< (8 : Int32)).toBitVec = (Int32.ofInt v).toBitVec <<< (8 : Nat) := by
      show (Int32.ofInt v).toBitVec <<< ((8 : Int32).toBitVec.smod 32) = _
      have e2 : (8 : Int32).toBitVec.smod 32 = 8#32 := by decide
      rw [e2]
      rfl
    rw [Int32.toBitVec_and, Int32.toBitVec_or, e1]
    apply BitVec.eq_of_toNat_eq
    rw [BitVec.toNat_and, BitVec.toNat_or, BitVec.toNat_shiftLeft]
    have e3 : (Int32.ofInt 255).toBitVec.toNat = 2 ^ 8 - 1 := by decide
    have e4 : (Int32.ofInt c).toBitVec.toNat = c.toNat := by
      show (BitVec.ofInt 32 c).toNat = _
      rw [BitVec.toNat_ofInt]
      omega
    rw [e3, Nat.and_two_pow_sub_one_eq_mod, Nat.or_mod_two_pow, e4, Nat.shiftLeft_eq]
    have e5 : (Int32.ofInt v).toBitVec.toNat * 2 ^ 8 % 2 ^ 32 % 2 ^ 8 = 0 := by omega
    rw [e5, Nat.zero_or]
    omega
  generalize (Int32.ofInt v <<< (8 : Int32) ||| Int32.ofInt c) = z at key
  have h1 : z &&& Int32.ofInt 255 = Int32.ofInt (z.toInt % 256) := by
    have := n_andm (x := z.toInt) (k := 8) (m := 255) (by decide) (by decide)
    rw [n_back] at this
    exact this
  rw [h1] at key
  have h2 := congrArg Int32.toInt key
  rw [n_toInt ⟨by omega, by omega⟩, n_toInt ⟨by omega, by omega⟩] at h2
  exact h2
end H1
section H2
variable {X : Nat → mm_O} {Z : Nat → List Int32} {d : Nat} {s s' : cS} {a b : Nat} {v k : Int}
theorem c_T01 (b : Bool) : n_T b = 0 ∨ n_T b = 1 := by cases b <;> simp [n_T]
theorem c_Tt {b : Bool} (h : b = true) : n_T b = 1 := by rw [h]; rfl
theorem c_Tf {b : Bool} (h : ¬ b = true) : n_T b = 0 := by cases b <;> simp_all [n_T]
theorem cx31 (hd : 6 ≤ d) (hk : n_rng k) : CG X Z d 31 [kI k] s (fun r s' => r = .inl (some (kI (n_T (c_dig k)))) ∧ s' = s) := by
  have h17 : ∀ x : Int, x = n_T (c_dig k) → CP X Z d 31 17 [some (kI k)] [kI x] s (fun r s' => r = .inl (some (kI (n_T (c_dig k)))) ∧ s' = s) := fun x hx => c_at nb31_17 hd rfl ⟨by rw [hx]; exact c_T01 _, by rw [hx], rfl⟩
  have h16 : ¬ c_dig k = true → CP X Z d 31 16 [some (kI k)] [] s (fun r s' => r = .inl (some (kI (n_T (c_dig k)))) ∧ s' = s) := fun h => c_at nb31_16 hd rfl (h17 0 (c_Tf h).symm)
  refine c_G_of (L := [some (kI k)]) (by rw [nl31]; exact Nat.le_of_ble_eq_true rfl) (by rw [nl31]; rfl) ?_
  refine c_at nb31_0 hd rfl ⟨hk, ⟨by decide, by decide⟩, fun z => h16 (fun h => ?_), fun z => ⟨hk, ⟨by decide, by decide⟩, fun z2 => h16 (fun h => ?_), fun z2 => h17 1 (c_Tt ?_).symm⟩⟩
  · have z : k < 48 := z
    have := of_decide_eq_true h
    omega
  · have z2 : 57 < k := z2
    have := of_decide_eq_true h
    omega
  · have z : ¬ k < 48 := z
    have z2 : ¬ 57 < k := z2
    exact decide_eq_true ⟨by omega, by omega⟩
theorem cx33 (hd : 6 ≤ d) (hk : n_rng k) : CG X Z d 33 [kI k] s (fun r s' => r = .inl (some (kI (n_T (c_let k)))) ∧ s' = s) := by
  have h17 : ∀ x : Int, x = n_T (c_let k) → CP X Z d 33 17 [some (kI k)] [kI x] s (fun r s' => r = .inl (some (kI (n_T (c_let k)))) ∧ s' = s) := fun x hx => c_at nb33_17 hd rfl ⟨by rw [hx]; exact c_T01 _, by rw [hx], rfl⟩
  have h16 : ¬ c_let k = true → CP X Z d 33 16 [some (kI k)] [] s (fun r s' => r = .inl (some (kI (n_T (c_let k)))) ∧ s' = s) := fun h => c_at nb33_16 hd rfl (h17 0 (c_Tf h).symm)
  refine c_G_of (L := [some (kI k)]) (by rw [nl33]; exact Nat.le_of_ble_eq_true rfl) (by rw [nl33]; rfl) ?_
  refine c_at nb33_0 hd rfl ⟨hk, ⟨by decide, by decide⟩, fun z => h16 (fun h => ?_), fun z => ⟨hk, ⟨by decide, by decide⟩, fun z2 => h16 (fun h => ?_), fun z2 => h17 1 (c_Tt ?_).symm⟩⟩
  · have z : k < 97 := z
    have := of_decide_eq_true h
    omega
  · have z2 : 122 < k := z2
    have := of_decide_eq_true h
    omega
  · have z : ¬ k < 97 := z
    have z2 : ¬ 122 < k := z2
    exact decide_eq_true ⟨by omega, by omega⟩
theorem cx42 (hd : 6 ≤ d) (hk : n_rng k) : CG X Z d 42 [kI k] s (fun r s' => r = .inl (some (kI (n_T (c_sgn k)))) ∧ s' = s) := by
  have h35 : ∀ x : Int, x = n_T (c_sgn k) → CP X Z d 42 35 [some (kI k)] [kI x] s (fun r s' => r = .inl (some (kI (n_T (c_sgn k)))) ∧ s' = s) := fun x hx => c_at nb42_35 hd rfl ⟨by rw [hx]; exact c_T01 _, by rw [hx], rfl⟩
  have h30 : (k = 43 ∨ k = 45 ∨ k = 42 ∨ k = 60 ∨ k = 61) → CP X Z d 42 30 [some (kI k)] [] s (fun r s' => r = .inl (some (kI (n_T (c_sgn k)))) ∧ s' = s) := fun h => c_at nb42_30 hd rfl (h35 1 (c_Tt (decide_eq_true h)).symm)
  have h34 : ¬ (k = 43 ∨ k = 45 ∨ k = 42 ∨ k = 60 ∨ k = 61) → CP X Z d 42 34 [some (kI k)] [] s (fun r s' => r = .inl (some (kI (n_T (c_sgn k)))) ∧ s' = s) := fun h => c_at nb42_34 hd rfl (h35 0 (c_Tf (fun q => h (of_decide_eq_true q))).symm)
  refine c_G_of (L := [some (kI k)]) (by rw [nl42]; exact Nat.le_of_ble_eq_true rfl) (by rw [nl42]; rfl) ?_
  exact c_at nb42_0 hd rfl ⟨hk, ⟨by decide, by decide⟩, fun z => h30 (Or.inl z), fun z1 => ⟨hk, ⟨by decide, by decide⟩, fun z => h30 (Or.inr (Or.inl z)), fun z2 => ⟨hk, ⟨by decide, by decide⟩, fun z => h30 (Or.inr (Or.inr (Or.inl z))), fun z3 => ⟨hk, ⟨by decide, by decide⟩, fun z => h30 (Or.inr (Or.inr (Or.inr (Or.inl z)))), fun z4 => ⟨hk, ⟨by decide, by decide⟩, fun z5 => h34 (fun e => e.elim z1 (fun e => e.elim z2 (fun e => e.elim z3 (fun e => e.elim z4 z5)))), fun z5 => h30 (Or.inr (Or.inr (Or.inr (Or.inr z5))))⟩⟩⟩⟩⟩
theorem cx35 (hd : 6 ≤ d) : CG X Z d 35 [kI k] s (fun r s' => r = .inl (some (kI (n_T (decide (97 ≤ k % 256))))) ∧ s' = s) := by
  have h15 : ∀ x : Int, x = n_T (decide (97 ≤ k % 256)) → CP X Z d 35 15 [some (kI k)] [kI x] s (fun r s' => r = .inl (some (kI (n_T (decide (97 ≤ k % 256))))) ∧ s' = s) := fun x hx => c_at nb35_15 hd rfl ⟨by rw [hx]; exact c_T01 _, by rw [hx], rfl⟩
  refine c_G_of (L := [some (kI k)]) (by rw [nl35]; exact Nat.le_of_ble_eq_true rfl) (by rw [nl35]; rfl) ?_
  refine c_at nb35_0 hd rfl ⟨⟨?_, ?_⟩, ⟨by decide, by decide⟩, fun z => c_at nb35_14 hd rfl (h15 0 (c_Tf (fun h => ?_)).symm), fun z => h15 1 (c_Tt (decide_eq_true ?_)).symm⟩
  · show -2147483648 ≤ k % 256; omega
  · show k % 256 < 2147483648; omega
  · have z : k % 256 < 97 := z
    have := of_decide_eq_true h
    omega
  · have z : ¬ k % 256 < 97 := z
    omega
theorem cx34 (hd : 6 ≤ d) (ha : cT s a = 3) (hg : c_rg s) : CG X Z (d + 1) 34 [kQ (some a)] s (fun r s' => r = .inl (some (kI (n_T (decide (s.1 a 0 = 1 ∧ 97 ≤ s.1 a 1 % 256))))) ∧ s' = s) := by
  have h23 : ∀ x : Int, x = n_T (decide (s.1 a 0 = 1 ∧ 97 ≤ s.1 a 1 % 256)) → CP X Z (d + 1) 34 23 [some (kQ (some a))] [kI x] s (fun r s' => r = .inl (some (kI (n_T (decide (s.1 a 0 = 1 ∧ 97 ≤ s.1 a 1 % 256))))) ∧ s' = s) := fun x hx => c_at nb34_23 (by omega) rfl ⟨by rw [hx]; exact c_T01 _, by rw [hx], rfl⟩
  have h22 : ¬ (s.1 a 0 = 1 ∧ 97 ≤ s.1 a 1 % 256) → CP X Z (d + 1) 34 22 [some (kQ (some a))] [] s (fun r s' => r = .inl (some (kI (n_T (decide (s.1 a 0 = 1 ∧ 97 ≤ s.1 a 1 % 256))))) ∧ s' = s) := fun h => c_at nb34_22 (by omega) rfl (h23 0 (c_Tf (fun q => h (of_decide_eq_true q))).symm)
  refine c_G_of (L := [some (kQ (some a))]) (by rw [nl34]; exact Nat.le_of_ble_eq_true rfl) (by rw [nl34]; rfl) ?_
  refine c_at nb34_0 (by omega) rfl ⟨a, rfl, ha, hg _ _, ⟨by decide, by decide⟩, fun z => h22 (fun h => z h.1), fun z => ⟨a, rfl, ha, ?_⟩⟩
  have z : s.1 a 0 = 1 := z
  refine c_is (vs := [kI (s.1 a 1)]) (r := []) nn35 (by simp) (cx35 hd) (fun r s' hr => ?_)
  rw [hr.1, hr.2]
  have h01 := c_T01 (decide (97 ≤ s.1 a 1 % 256))
  refine ⟨⟨by omega, by omega⟩, fun z2 => h22 (fun h => ?_), fun z2 => h23 1 (c_Tt (decide_eq_true ⟨z, ?_⟩)).symm⟩
  · have z2 : n_T (decide (97 ≤ s.1 a 1 % 256)) = 0 := z2
    rw [c_Tt (decide_eq_true h.2)] at z2
    exact absurd z2 (by decide)
  · have z2 : ¬ n_T (decide (97 ≤ s.1 a 1 % 256)) = 0 := z2
    apply Classical.byContradiction
    intro hc
    exact z2 (c_Tf (fun q => hc (of_decide_eq_true q)))
end H2
