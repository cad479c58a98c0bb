/-! THE CLASS'S write -/
def c_ct (w : Int64) : Nat → Option Int
  | 0 => some 0
  | k + 1 => if n_wch w k = 0 then c_ct w k else if 31 < n_wch w k ∧ n_wch w k < 127 then (c_ct w k).map (· + 1) else none
theorem c_ct_b {w : Int64} : ∀ (k : Nat) (m : Int), c_ct w k = some m → 0 ≤ m ∧ m ≤ k
  | 0, m, h => by
    have h : some (0 : Int) = some m := h
    cases h
    decide
  | k + 1, m, h => by
    rw [c_ct] at h
    split at h
    · have := c_ct_b k m h
      omega
    · split at h
      · obtain ⟨x, h1, h2⟩ := Option.map_eq_some_iff.mp h
        have := c_ct_b k x h1
        omega
      · cases h
theorem n_wr_f {w : Int64} : ∀ (k : Nat) (n : Int), (n_wr w k n false).2 = false
  | 0, n => rfl
  | k + 1, n => by
    rw [n_wr, Bool.false_and]
    exact n_wr_f k _
/-- the reference's word on the same characters -/
theorem c_wr_eq {w : Int64} : ∀ (k : Nat) (n : Int), (c_ct w k = none → (n_wr w k n true).2 = false) ∧ (∀ m, c_ct w k = some m → n + m ≤ 120 → n_wr w k n true = (n + m, true)) ∧ (∀ m, c_ct w k = some m → 120 < n + m → 0 < m → (n_wr w k n true).2 = false)
  | 0, n => by
    refine ⟨fun h => (by cases h), fun m h _ => ?_, fun m h _ h2 => ?_⟩
    · have h : some (0 : Int) = some m := h
      cases h
      show (n, true) = (n + 0, true)
      rw [Int.add_zero]
    · have h : some (0 : Int) = some m := h
      cases h
      omega
  | k + 1, n => by
    rw [c_ct, n_wr]
    by_cases h0 : n_wch w k = 0
    · rw [if_pos h0, if_neg (fun q => q.2 h0), h0]
      simp only [decide_true, Bool.true_or, Bool.and_true]
      exact c_wr_eq k n
    · rw [if_neg h0, decide_eq_false h0, Bool.false_or, Bool.true_and]
      by_cases hv : 31 < n_wch w k ∧ n_wch w k < 127
      · rw [if_pos hv]
        by_cases hn : n < 120
        · rw [decide_eq_true (show 31 < n_wch w k ∧ n_wch w k < 127 ∧ n < 120 from ⟨hv.1, hv.2, hn⟩), if_pos ⟨rfl, h0⟩]
          obtain ⟨e1, e2, e3⟩ := c_wr_eq (w := w) k (n + 1)
          refine ⟨fun h => ?_, fun m h hm => ?_, fun m h hm hm2 => ?_⟩
          · exact e1 (by simpa using h)
          · obtain ⟨x, h1, h2⟩ := Option.map_eq_some_iff.mp h
            rw [e2 x h1 (by omega)]
            congr 1
            omega
          · obtain ⟨x, h1, h2⟩ := Option.map_eq_some_iff.mp h
            exact e3 x h1 (by omega) (by omega)
        · rw [decide_eq_false (show ¬ (31 < n_wch w k ∧ n_wch w k < 127 ∧ n < 120) from fun q => hn q.2.2), if_neg (fun q => by cases q.1)]
          refine ⟨fun _ => n_wr_f k n, fun m h hm => ?_, fun _ _ _ _ => n_wr_f k n⟩
          obtain ⟨x, h1, h2⟩ := Option.map_eq_some_iff.mp h
          have := c_ct_b k x h1
          omega
      · rw [if_neg hv, decide_eq_false (show ¬ (31 < n_wch w k ∧ n_wch w k < 127 ∧ n < 120) from fun q => hv ⟨q.1, q.2.1⟩), if_neg (fun q => by cases q.1)]
        exact ⟨fun _ => n_wr_f k n, fun m h => (by cases h), fun m h => (by cases h)⟩
def c_wrT (w : Int64) : Nat → cS → cS
  | 0, s => s
  | k + 1, s => c_wrT w k (if n_wch w k = 0 then s else c_put s 1 2 (n_wch w k))
section C9
variable {X : Nat → mm_O} {Z : Nat → List Int32} {d : Nat} {s s' : cS}
theorem c_put_row {a b : Nat} {v : Int} (hb : c_By s a b) (hlt : s.1 a 1 < cN s b) (i : Nat) : (c_put s a b v).1 b i = if i = (s.1 a 1).toNat then c_w (v % 256) else s.1 b i := by
  unfold c_put
  rw [if_pos hlt]
  unfold c_uA
  dsimp only
  rw [n_ua_ne (Ne.symm (c_By_ne hb)), n_ua_eq]
/-- the characters lie in the row -/
theorem c_wrT_ok {w : Int64} : ∀ (k : Nat) (s : cS) (m : Int) (T : Nat → Int), c_By s 1 2 → c_rg s → cN s 2 = 120 → c_ct w k = some m → s.1 1 1 + m ≤ 120 → (∀ i : Nat, (i : Int) < s.1 1 1 → s.1 2 i = T i) → c_BM s 1 2 (c_wrT w k s) ∧ (c_wrT w k s).1 1 1 = s.1 1 1 + m ∧ (∀ i : Nat, (i : Int) < s.1 1 1 + m → (c_wrT w k s).1 2 i = n_wrA w k (s.1 1 1) true T i) := by
  intro k
  induction k with
  | zero =>
    intro s m T hb hg hn hm hl hT
    have hm : some (0 : Int) = some m := hm
    cases hm
    exact ⟨c_BM_rf hb hg, by show s.1 1 1 = s.1 1 1 + 0; omega, fun i hi => hT i (by omega)⟩
  | succ k ih =>
    intro s m T hb hg hn hm hl hT
    rw [c_ct] at hm
    rw [c_wrT, n_wrA]
    by_cases h0 : n_wch w k = 0
    · rw [if_pos h0] at hm
      rw [if_pos h0, if_neg (fun q => q.2 h0), if_neg (fun q => q.2 h0), h0]
      simp only [decide_true, Bool.true_or, Bool.and_true]
      exact ih s m T hb hg hn hm hl hT
    · rw [if_neg h0] at hm
      rw [if_neg h0, decide_eq_false h0, Bool.false_or, Bool.true_and]
      by_cases hv : 31 < n_wch w k ∧ n_wch w k < 127
      · rw [if_pos hv] at hm
        obtain ⟨x, h1, h2⟩ := Option.map_eq_some_iff.mp hm
        have hx := c_ct_b k x h1
        have h4 := hb.2.2.2.1
        have hlt : s.1 1 1 < 120 := by omega
        rw [decide_eq_true (show 31 < n_wch w k ∧ n_wch w k < 127 ∧ s.1 1 1 < 120 from ⟨hv.1, hv.2, hlt⟩), if_pos ⟨rfl, h0⟩, if_pos ⟨rfl, h0⟩]
        have hlen := c_put_len (v := n_wch w k) hb
        rw [hn, if_pos (show s.1 1 1 < ((120 : Nat) : Int) from hlt)] at hlen
        have hm1 := c_put_BM (v := n_wch w k) hb hg
        have hrow : ∀ i : Nat, (c_put s 1 2 (n_wch w k)).1 2 i = if i = (s.1 1 1).toNat then n_wch w k else s.1 2 i := fun i => by
          rw [c_put_row hb (by rw [hn]; exact hlt), c_w_id ⟨by omega, by omega⟩, show n_wch w k % 256 = n_wch w k from by omega]
        obtain ⟨r1, r2, r3⟩ := ih (c_put s 1 2 (n_wch w k)) x (fun j => if j = (s.1 1 1).toNat then n_wch w k else T j) (c_BM_By hb hm1) hm1.2.2.1 (by rw [c_N2 hm1.1]; exact hn) h1 (by rw [hlen]; omega) (fun i hi => by
          rw [hlen] at hi
          rw [hrow]
          split
          · rfl
          · rename_i hne
            exact hT i (by omega))
        rw [hlen] at r2 r3
        exact ⟨c_BM_tr hm1 r1, by rw [r2]; omega, fun i hi => r3 i (by omega)⟩
      · rw [if_neg hv] at hm
        cases hm
theorem cg9 (hd : 6 ≤ d) {w : Int64} {k : Nat} : CG X Z d 9 [kJ w, kI (8 * (k : Int))] s (fun r s' => r = .inl (some (kI (n_wch w k))) ∧ s' = s) := by
  refine c_G_of (L := [some (kJ w), none, some (kI (8 * (k : Int)))]) (by rw [nl9]; exact Nat.le_of_ble_eq_true rfl) (by rw [nl9]; rfl) ?_
  exact c_at nb9_0 hd rfl ⟨rfl, rfl⟩
/-- what a write leaves -/
def c_WO (s : cS) (w : Int64) (r : cA) (s' : cS) : Prop := r = .inl (some (kI (n_T (n_wr w 8 (s.1 1 1) true).2))) ∧ c_BM s 1 2 s' ∧ s'.1 1 1 = (if (n_wr w 8 (s.1 1 1) true).2 = true then (n_wr w 8 (s.1 1 1) true).1 else s.1 1 1) ∧ (∀ T : Nat → Int, (∀ i : Nat, (i : Int) < s.1 1 1 → s.1 2 i = T i ∧ 31 < T i) → ∀ i : Nat, (i : Int) < s'.1 1 1 → s'.1 2 i = n_wrA w 8 (s.1 1 1) true T i)
theorem c_WO_bad {w : Int64} (hb : c_By s 1 2) (hg : c_rg s) (hn : cN s 2 = 120) (h : (n_wr w 8 (s.1 1 1) true).2 = false) : c_WO s w (.inl (some (kI 0))) s := by
  have h4 := hb.2.2.2.1
  refine ⟨by rw [h]; rfl, c_BM_rf hb hg, by rw [h]; rfl, fun T hT i hi => ?_⟩
  rw [(n_wr_b (w := w) 8 (s.1 1 1) true T ⟨h4.1, by omega⟩ (fun i hi => (hT i hi).2)).2.2 i hi]
  exact (hT i hi).1
theorem c_l8b (hd : 6 ≤ d) {w : Int64} (R : cS) (hR : c_WO s w (.inl (some (kI 1))) R) : ∀ (k : Nat) (t : cS) (a5 : Option cV) (ad : Int), k ≤ 8 → c_By t 1 2 → c_rg t → cT t 0 = 0 → t.2.1 0 0 = some 1 → c_wrT w k t = R → CP X Z (d + 1) 8 66 [some (kQ (some 0)), some (kJ w), none, some (kI ad), some (kI (8 * (k : Int) - 8)), a5] [] t (c_WO s w)
  | 0, t, a5, ad, _, hb, hg, ht, hr0, e => by
    have e : t = R := e
    rw [e]
    exact c_at nb8_66 (by omega) rfl ⟨⟨by decide, by decide⟩, fun _ => c_at nb8_99 (by omega) rfl ⟨Or.inr rfl, hR⟩, fun z => absurd (show (8 * ((0 : Nat) : Int) - 8) < 0 by decide) z⟩
  | k + 1, t, a5, ad, hk8, hb, hg, ht, hr0, e => by
    have ek : 8 * ((k + 1 : Nat) : Int) - 8 = 8 * (k : Int) := by omega
    rw [ek]
    have h93 : ∀ (t' : cS), c_By t' 1 2 → c_rg t' → cT t' 0 = 0 → t'.2.1 0 0 = some 1 → c_wrT w k t' = R → CP X Z (d + 1) 8 93 [some (kQ (some 0)), some (kJ w), none, some (kI ad), some (kI (8 * (k : Int))), some (kI (n_wch w k))] [] t' (c_WO s w) := by
      intro t' q1 q2 q3 q4 q5
      refine c_at nb8_93 (by omega) rfl ?_
      have := c_l8b hd R hR k t' (some (kI (n_wch w k))) ad (by omega) q1 q2 q3 q4 q5
      rw [show 8 * (k : Int) - 8 = 8 * (k : Int) + -8 from by omega] at this
      exact this
    rw [c_wrT] at e
    refine c_at nb8_66 (by omega) rfl ⟨⟨by omega, by omega⟩, fun z => by omega, fun _ => ?_⟩
    refine c_is (vs := [kJ w, kI (8 * (k : Int))]) (r := []) nn9 (by simp) (cg9 hd) (fun r s' hr => ?_)
    rw [hr.1, hr.2]
    have hcb : 0 ≤ n_wch w k ∧ n_wch w k < 256 := by unfold n_wch; omega
    refine ⟨⟨by omega, by omega⟩, fun z => h93 t hb hg ht hr0 (by rw [if_pos z] at e; exact e), fun z => ⟨0, rfl, ht, ?_⟩⟩
    rw [if_neg z] at e
    show wc Z _ _ _ _ _ [kI (n_wch w k), kQ (t.2.1 0 0)] t
    rw [hr0]
    refine c_iv (a := 1) (vs := [kQ (some 1), kI (n_wch w k)]) (r := []) nn11 (by simp) rfl nc11 hb.1 (by decide) (cg11 hd hb) (fun r s' hr => ?_)
    rw [hr.1, hr.2]
    have hm1 := c_put_BM (v := n_wch w k) hb hg
    exact h93 _ (c_BM_By hb hm1) hm1.2.2.1 (by rw [c_T2 hm1.1]; exact ht) (by rw [hm1.1]; exact hr0) e
/-- write -/
theorem cg8 (hd : 6 ≤ d) {w : Int64} (h : c_ok s) : CG X Z (d + 1) 8 [kQ (some 0), kJ w] s (c_WO s w) := by
  have hb : c_By s 1 2 := c_ok_By h (p := (1, 0, 2)) (by decide) rfl (by decide)
  have hn : cN s 2 = 120 := c_l h (2, 120) (by decide)
  have t0 : cT s 0 = 0 := c_t h (0, 0) (by decide)
  have r0 : s.2.1 0 0 = some 1 := c_r h (0, 0, 1) (by decide)
  have h4 := hb.2.2.2.1
  have h49 : ∀ (a5 : Option cV) (sh m : Int), c_ct w 8 = some m → CP X Z (d + 1) 8 49 [some (kQ (some 0)), some (kJ w), none, some (kI m), some (kI sh), a5] [] s (c_WO s w) := by
    intro a5 sh m hm
    have hmb := c_ct_b 8 m hm
    obtain ⟨-, e2, e3⟩ := c_wr_eq (w := w) 8 (s.1 1 1)
    refine c_at nb8_49 (by omega) rfl ⟨0, rfl, t0, ?_⟩
    show wc Z _ _ _ _ _ [kQ (s.2.1 0 0), kI m] s
    rw [r0]
    refine c_iv (a := 1) (vs := [kQ (some 1)]) (r := [kI m]) nn10 (by simp) rfl nc10 hb.1 (by decide) (cg10 hd hb) (fun r s' hr => ?_)
    rw [hr.1, hr.2]
    refine ⟨⟨by omega, by omega⟩, ⟨by omega, by omega⟩, fun z => ?_, fun z => ⟨Or.inl rfl, c_WO_bad hb h.1 hn (e3 m hm (by omega) (by omega))⟩⟩
    have z : m ≤ (cN s 2 : Int) - s.1 1 1 := z
    have eg := e2 m hm (by omega)
    refine c_at nb8_62 (by omega) rfl ?_
    refine c_l8b hd (c_wrT w 8 s) ?_ 8 s a5 m (by omega) hb h.1 t0 r0 rfl
    refine ⟨by rw [eg]; rfl, ?_, ?_, fun T hT i hi => ?_⟩
    · exact (c_wrT_ok (w := w) 8 s m (s.1 2) hb h.1 hn hm (by omega) (fun _ _ => rfl)).1
    · rw [eg, (c_wrT_ok (w := w) 8 s m (s.1 2) hb h.1 hn hm (by omega) (fun _ _ => rfl)).2.1]
      rfl
    · obtain ⟨q1, q2, q3⟩ := c_wrT_ok (w := w) 8 s m T hb h.1 hn hm (by omega) (fun i hi => (hT i hi).1)
      rw [q2] at hi
      exact q3 i hi
  obtain ⟨R, hR⟩ : ∃ R, c_ct w 8 = R := ⟨_, rfl⟩
  have h6 : ∀ (k : Nat) (a5 : Option cV) (ad : Int), k ≤ 8 → (0 ≤ ad ∧ ad + k ≤ 8) → R = (c_ct w k).map (ad + ·) → CP X Z (d + 1) 8 6 [some (kQ (some 0)), some (kJ w), none, some (kI ad), some (kI (8 * (k : Int) - 8)), a5] [] s (c_WO s w) := by
    intro k
    induction k with
    | zero =>
      intro a5 ad _ had e
      refine c_at nb8_6 (by omega) rfl ⟨⟨by decide, by decide⟩, fun _ => h49 a5 _ ad ?_, fun z => absurd (show (8 * ((0 : Nat) : Int) - 8) < 0 by decide) z⟩
      rw [hR, e]
      show some (ad + 0) = some ad
      rw [Int.add_zero]
    | succ k ih =>
      intro a5 ad hk had e
      have ek : 8 * ((k + 1 : Nat) : Int) - 8 = 8 * (k : Int) := by omega
      rw [ek]
      have hcb : 0 ≤ n_wch w k ∧ n_wch w k < 256 := by unfold n_wch; omega
      rw [c_ct.eq_2] at e
      have h43 : ∀ ad' : Int, (0 ≤ ad' ∧ ad' + k ≤ 8) → R = (c_ct w k).map (ad' + ·) → CP X Z (d + 1) 8 43 [some (kQ (some 0)), some (kJ w), none, some (kI ad'), some (kI (8 * (k : Int))), some (kI (n_wch w k))] [] s (c_WO s w) := by
        intro ad' q1 q2
        refine c_at nb8_43 (by omega) rfl ?_
        have := ih (some (kI (n_wch w k))) ad' (by omega) q1 q2
        rw [show 8 * (k : Int) - 8 = 8 * (k : Int) + -8 from by omega] at this
        exact this
      have h38 : ¬ n_wch w k = 0 → ¬ (31 < n_wch w k ∧ n_wch w k < 127) → CP X Z (d + 1) 8 38 [some (kQ (some 0)), some (kJ w), none, some (kI ad), some (kI (8 * (k : Int))), some (kI (n_wch w k))] [] s (c_WO s w) := by
        intro z1 z2
        rw [if_neg z1, if_neg z2] at e
        exact c_at nb8_38 (by omega) rfl ⟨Or.inl rfl, c_WO_bad hb h.1 hn ((c_wr_eq (w := w) 8 (s.1 1 1)).1 (hR.trans e))⟩
      refine c_at nb8_6 (by omega) rfl ⟨⟨by omega, by omega⟩, fun z => by omega, fun _ => ?_⟩
      refine c_is (vs := [kJ w, kI (8 * (k : Int))]) (r := []) nn9 (by simp) (cg9 hd) (fun r s' hr => ?_)
      rw [hr.1, hr.2]
      refine ⟨⟨by omega, by omega⟩, fun z => h43 ad ⟨by omega, by omega⟩ (by rw [if_pos z] at e; exact e), fun z => ⟨⟨by omega, by omega⟩, ⟨by decide, by decide⟩, fun z2 => h38 z (by omega), fun z2 => ⟨⟨by omega, by omega⟩, ⟨by decide, by decide⟩, fun z3 => ?_, fun z3 => h38 z (by omega)⟩⟩⟩
      have z2 : ¬ n_wch w k < 32 := z2
      have z3 : n_wch w k ≤ 126 := z3
      have z : ¬ n_wch w k = 0 := z
      rw [if_neg z, if_pos ⟨by omega, by omega⟩] at e
      refine c_at nb8_40 (by omega) rfl ?_
      refine h43 (ad + 1) ⟨by omega, by omega⟩ ?_
      rw [e, Option.map_map]
      congr 1
      funext x
      show ad + (x + 1) = ad + 1 + x
      omega
  refine c_G_of (L := [some (kQ (some 0)), some (kJ w), none, none, none, none]) (by rw [nl8]; exact Nat.le_of_ble_eq_true rfl) (by rw [nl8]; rfl) ?_
  refine c_at nb8_0 (by omega) rfl ?_
  refine h6 8 none 0 (by omega) (by omega) ?_
  rw [hR]
  cases R with
  | none => rfl
  | some x =>
    show some x = some (0 + x)
    rw [Int.zero_add]
end C9
