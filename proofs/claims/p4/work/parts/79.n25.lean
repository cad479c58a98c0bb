/-! THE REFERENCE'S write -/
theorem n_cc : ∀ c : Nat, c < 128 → n_c (n_i2c (c : Int)) = (c : Int) := by decide +kernel
/-- the character number k of a word, 0 the last -/
def n_wch (w : Int64) (k : Nat) : Int := (w.toUInt64 >>> ((Int32.ofInt (8 * (k : Int))).toInt64.toUInt64 &&& Int64.toUInt64 63)).toInt64.toInt32.toInt % 256
/-- characters k - 1 .. 0 are taken: how many stand now, and are they good -/
def n_wr (w : Int64) : Nat → Int → Bool → Int × Bool
  | 0, n, g => (n, g)
  | k + 1, n, g => n_wr w k (if (g && (decide (n_wch w k = 0) || decide (31 < n_wch w k ∧ n_wch w k < 127 ∧ n < 120))) = true ∧ ¬ n_wch w k = 0 then n + 1 else n) (g && (decide (n_wch w k = 0) || decide (31 < n_wch w k ∧ n_wch w k < 127 ∧ n < 120)))
/-- and the text then -/
def n_wrA (w : Int64) : Nat → Int → Bool → (Nat → Int) → Nat → Int
  | 0, _, _, T => T
  | k + 1, n, g, T => n_wrA w k (if (g && (decide (n_wch w k = 0) || decide (31 < n_wch w k ∧ n_wch w k < 127 ∧ n < 120))) = true ∧ ¬ n_wch w k = 0 then n + 1 else n) (g && (decide (n_wch w k = 0) || decide (31 < n_wch w k ∧ n_wch w k < 127 ∧ n < 120))) (if (g && (decide (n_wch w k = 0) || decide (31 < n_wch w k ∧ n_wch w k < 127 ∧ n < 120))) = true ∧ ¬ n_wch w k = 0 then (fun j => if j = n.toNat then n_wch w k else T j) else T)
section N25
variable {Z : Nat → List Int32} {d : Nat} {s : nS}
/-- what write leaves: the text's length t -/
def n_WP (s : nS) (t : Int) (T : Nat → Int) (s' : nS) : Prop := s'.1 = n_upd (n_upd s.1 0 0) 1 t ∧ (∀ a i, a ≠ 26 → s'.2 a i = s.2 a i) ∧ (∀ i, 0 ≤ s'.2 26 i ∧ s'.2 26 i < 128) ∧ s'.2 26 = T
theorem n_l109 {w : Int64} (hd : 6 ≤ d) (ht : 0 ≤ s.1 1 ∧ s.1 1 ≤ 120) (R : Int × Bool) (T : Nat → Int) : ∀ (k : Nat), k ≤ 8 → ∀ (n : Int) (g : Bool) (A : Nat → Nat → Int) (o : Option nV), (0 ≤ n ∧ n ≤ 120) → (∀ a i, a ≠ 26 → A a i = s.2 a i) → (∀ i, 0 ≤ A 26 i ∧ A 26 i < 128) → n_wr w k n g = R → n_wrA w k n g (A 26) = T → NP Z d 109 17 [some (xR 25), some (xJ w), none, some (xI n), some (xI (n_T g)), some (xI ((k : Int) - 1)), o] [] (n_upd s.1 0 0, A) (fun r s' => r = some (n_T R.2) ∧ n_WP s (if R.2 = true then R.1 else s.1 1) T s')
  | 0, _, n, g, A, o, hn, hA, hA2, hR, hT => by
    have hR : (n, g) = R := hR
    subst hR
    have h115 : ∀ t : Int, t = (if g = true then n else s.1 1) → NP Z d 109 115 [some (xR 25), some (xJ w), none, some (xI n), some (xI (n_T g)), some (xI (((0 : Nat) : Int) - 1)), o] [xI t, xR 25] (n_upd s.1 0 0, A) (fun r s' => r = some (n_T (n, g).2) ∧ n_WP s (if (n, g).2 = true then (n, g).1 else s.1 1) T s') := by
      intro t h
      refine n_at nb109_115 hd rfl ⟨n_T01 g, rfl, ?_, hA, hA2, hT⟩
      show n_upd (n_upd s.1 0 0) 1 t = _
      rw [h]
    refine n_at nb109_17 hd rfl ⟨⟨by decide, by decide⟩, fun _ => ?_, fun z => absurd (by decide : (((0 : Nat) : Int) - 1) < 0) z⟩
    refine n_at nb109_101 hd rfl ⟨n_rngT g, fun z => ?_, fun z => h115 _ (by rw [n_T1 z]; rfl)⟩
    exact n_at nb109_111 hd rfl (h115 _ (by rw [n_T0 z]; rfl))
  | k + 1, hk, n, g, A, o, hn, hA, hA2, hR, hT => by
    have hcb : 0 ≤ n_wch w k ∧ n_wch w k < 256 := by unfold n_wch; omega
    have hcr : n_rng (n_wch w k) := ⟨by omega, by omega⟩
    have e : ((k + 1 : Nat) : Int) - 1 = (k : Int) := by omega
    rw [e]
    have hR : n_wr w k (if (g && (decide (n_wch w k = 0) || decide (31 < n_wch w k ∧ n_wch w k < 127 ∧ n < 120))) = true ∧ ¬ n_wch w k = 0 then n + 1 else n) (g && (decide (n_wch w k = 0) || decide (31 < n_wch w k ∧ n_wch w k < 127 ∧ n < 120))) = R := hR
    have hT : n_wrA w k (if (g && (decide (n_wch w k = 0) || decide (31 < n_wch w k ∧ n_wch w k < 127 ∧ n < 120))) = true ∧ ¬ n_wch w k = 0 then n + 1 else n) (g && (decide (n_wch w k = 0) || decide (31 < n_wch w k ∧ n_wch w k < 127 ∧ n < 120))) (if (g && (decide (n_wch w k = 0) || decide (31 < n_wch w k ∧ n_wch w k < 127 ∧ n < 120))) = true ∧ ¬ n_wch w k = 0 then (fun j => if j = n.toNat then n_wch w k else A 26 j) else A 26) = T := hT
    generalize hg : (g && (decide (n_wch w k = 0) || decide (31 < n_wch w k ∧ n_wch w k < 127 ∧ n < 120))) = g' at hR hT
    have h95 : ∀ (n' : Int) (A' : Nat → Nat → Int), (0 ≤ n' ∧ n' ≤ 120) → (∀ a i, a ≠ 26 → A' a i = s.2 a i) → (∀ i, 0 ≤ A' 26 i ∧ A' 26 i < 128) → n_wr w k n' g' = R → n_wrA w k n' g' (A' 26) = T → NP Z d 109 95 [some (xR 25), some (xJ w), none, some (xI n'), some (xI (n_T g')), some (xI (k : Int)), some (xI (n_wch w k))] [] (n_upd s.1 0 0, A') (fun r s' => r = some (n_T R.2) ∧ n_WP s (if R.2 = true then R.1 else s.1 1) T s') := by
      intro n' A' q1 q2 q3 q4 q5
      exact n_at nb109_95 hd rfl (n_l109 hd ht R T k (by omega) n' g' A' _ q1 q2 q3 q4 q5)
    have h71 : NP Z d 109 71 [some (xR 25), some (xJ w), none, some (xI n), some (xI (n_T g)), some (xI (k : Int)), some (xI (n_wch w k))] [xI (n_T g')] (n_upd s.1 0 0, A) (fun r s' => r = some (n_T R.2) ∧ n_WP s (if R.2 = true then R.1 else s.1 1) T s') := by
      refine n_at nb109_71 hd rfl ⟨n_rngT _, fun z => ?_, fun z => ⟨hcr, fun z2 => ?_, fun z2 => ?_⟩⟩
      · rw [n_T0 z, if_neg (by rintro ⟨h, -⟩; cases h)] at hR
        rw [n_T0 z, if_neg (by rintro ⟨h, -⟩; cases h), if_neg (by rintro ⟨h, -⟩; cases h)] at hT
        exact h95 n A hn hA hA2 (by rw [n_T0 z]; exact hR) (by rw [n_T0 z]; exact hT)
      · rw [if_neg (fun h => h.2 z2)] at hR
        rw [if_neg (fun h => h.2 z2), if_neg (fun h => h.2 z2)] at hT
        exact h95 n A hn hA hA2 hR hT
      · have hg1 := n_T1 z
        rw [if_pos ⟨hg1, z2⟩] at hR
        rw [if_pos ⟨hg1, z2⟩, if_pos ⟨hg1, z2⟩] at hT
        rw [hg1] at hg
        simp only [Bool.and_eq_true, Bool.or_eq_true, decide_eq_true_eq] at hg
        have hlim := hg.2.resolve_left z2
        refine ⟨⟨by omega, by omega⟩, ?_⟩
        refine h95 (n + 1) _ ⟨by omega, by omega⟩ (fun a i ha => ?_) (fun i => ?_) hR ?_
        · rw [n_ua_ne ha]
          exact hA a i ha
        · rw [n_ua_eq]
          split
          · have e3 := n_cc (n_wch w k).toNat (by omega)
            rw [show (((n_wch w k).toNat : Nat) : Int) = n_wch w k from by omega] at e3
            rw [e3]
            omega
          · exact hA2 i
        · have e3 := n_cc (n_wch w k).toNat (by omega)
          rw [show (((n_wch w k).toNat : Nat) : Int) = n_wch w k from by omega] at e3
          have e4 : (fun j => n_updA A 26 n.toNat (n_c (n_i2c (n_wch w k))) 26 j) = (fun j => if j = n.toNat then n_wch w k else A 26 j) := by
            funext j
            rw [n_ua_eq, e3]
          rw [← hT]
          exact congrArg (n_wrA w k (n + 1) g') e4
    have h66 : g' = true → NP Z d 109 66 [some (xR 25), some (xJ w), none, some (xI n), some (xI (n_T g)), some (xI (k : Int)), some (xI (n_wch w k))] [] (n_upd s.1 0 0, A) (fun r s' => r = some (n_T R.2) ∧ n_WP s (if R.2 = true then R.1 else s.1 1) T s') := fun h => n_at nb109_66 hd rfl (by rw [h] at h71; exact h71)
    have h70 : g' = false → NP Z d 109 70 [some (xR 25), some (xJ w), none, some (xI n), some (xI (n_T g)), some (xI (k : Int)), some (xI (n_wch w k))] [] (n_upd s.1 0 0, A) (fun r s' => r = some (n_T R.2) ∧ n_WP s (if R.2 = true then R.1 else s.1 1) T s') := fun h => n_at nb109_70 hd rfl (by rw [h] at h71; exact h71)
    refine n_at nb109_17 hd rfl ⟨⟨by omega, by omega⟩, fun z => ?_, fun _ => ?_⟩
    · omega
    refine ⟨n_rngT _, fun z => h70 ?_, fun z => ⟨hcr, fun z2 => h66 ?_, fun z2 => ⟨hcr, ⟨by decide, by decide⟩, fun z3 => h70 ?_, fun z3 => ⟨hcr, ⟨by decide, by decide⟩, fun z4 => h70 ?_, fun z4 => ⟨⟨by omega, by omega⟩, ⟨by decide, by decide⟩, fun z5 => h70 ?_, fun z5 => h66 ?_⟩⟩⟩⟩⟩
    · rw [← hg, n_T0 z]; rfl
    · have z2 : n_wch w k = 0 := z2
      rw [← hg, n_T1 z, z2]; rfl
    · have z3 : n_wch w k ≤ 31 := z3
      have z2 : ¬ n_wch w k = 0 := z2
      rw [← hg, decide_eq_false z2, decide_eq_false (by omega)]; simp
    · have z4 : 127 ≤ n_wch w k := z4
      have z2 : ¬ n_wch w k = 0 := z2
      rw [← hg, decide_eq_false z2, decide_eq_false (by omega)]; simp
    · have z2 : ¬ n_wch w k = 0 := z2
      rw [← hg, decide_eq_false z2, decide_eq_false (by omega)]; simp
    · have z3 : ¬ n_wch w k ≤ 31 := z3
      have z4 : ¬ 127 ≤ n_wch w k := z4
      rw [← hg, n_T1 z, decide_eq_true (show 31 < n_wch w k ∧ n_wch w k < 127 ∧ n < 120 by omega)]; simp
theorem ng109 {w : Int64} (hd : 6 ≤ d) (ht : 0 ≤ s.1 1 ∧ s.1 1 ≤ 120) (hc : ∀ i, 0 ≤ s.2 26 i ∧ s.2 26 i < 128) : NG Z d 109 [xR 25, xJ w] s (fun r s' => r = some (n_T (n_wr w 8 (s.1 1) true).2) ∧ n_WP s (if (n_wr w 8 (s.1 1) true).2 = true then (n_wr w 8 (s.1 1) true).1 else s.1 1) (n_wrA w 8 (s.1 1) true (s.2 26)) s') := by
  refine n_G_of (L := [some (xR 25), some (xJ w), none, none, none, none, none]) (by rw [nl109]; exact Nat.le_of_ble_eq_true rfl) (by rw [nl109]; rfl) ?_
  refine n_at nb109_0 hd rfl ?_
  exact n_l109 hd ht _ _ 8 (by omega) (s.1 1) true s.2 none ht (fun _ _ _ => rfl) hc rfl rfl
end N25
