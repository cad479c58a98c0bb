/-! THE CODE AND THE FILE ARE COPIED -/
/-- a Bytes that was made, all else as before -/
def c_nB (s : cS) (y : Nat) (r : cA) (s' : cS) : Prop := (∃ p, r = .inl (some (kQ (some p))) ∧ cT s' p = 1 ∧ s'.2.1 p 0 ≠ none ∧ 25 ≤ p) ∧ c_RP s s' 2 y ∧ (∀ x i, cT s x ≠ 99 → s'.1 x i = s.1 x i ∧ s'.2.1 x i = s.2.1 x i)
section E7
variable {X : Nat → mm_O} {Z : Nat → List Int32} {d n : Nat} {s s' S t : cS} {a b i u f : Nat} {k : Int}
theorem c_RP_BM (h : c_ok s) (hb : c_By s a b) (ha : 25 ≤ a) (hb2 : 25 ≤ b) (hm : c_BM s a b s') : c_RP s s' 0 0 := by
  obtain ⟨g1, g2⟩ := c_ok_BM h hb hm
  obtain ⟨m1, m2, -, -⟩ := hm
  exact ⟨g1, g2, ⟨m2 1 1 (by omega) (fun e => by omega), fun i => m2 2 i (by omega) (fun e => by omega), m2 0 6 (by omega) (fun e => by omega)⟩, by unfold c_bd cq cn; rw [m1]; omega⟩
theorem c_78e (hd : 6 ≤ d) (h : c_ok s) (hb : c_By s a b) {T : cS} {p q : Nat} (m : c_RP s T 2 (n + 2)) (hp : p = cn s ∧ q = cn s + 1) (hB : c_By T p q) (oth : ∀ x i, cT s x ≠ 99 → T.1 x i = s.1 x i ∧ T.2.1 x i = s.2.1 x i) : wc Z (fun t L st s' => CP X Z (d + 2) 78 t L st s' (c_nB s (n + 2))) (cC X Z (d + 2)) (c_nB s (n + 2)) [.aload 1, .aload 0, .invokevirtual 79, .aload 1, .areturn] [some (kQ (some a)), some (kQ (some p))] [] T := by
  have h59 : 59 ≤ cn s := h.2.1.2.2.2
  have hlt := (cT_lt hb.1 (by decide)).1
  have hlb := (cT_lt hb.2.2.1 (by decide)).1
  have hcn : cn s = s.2.2.2.2.1 := rfl
  have hBa : c_By T a b := ⟨c_E_T m.2.1 hb.1 (by decide), by rw [(oth a 0 (by rw [hb.1]; decide)).2]; exact hb.2.1, c_E_T m.2.1 hb.2.2.1 (by decide), by rw [(oth a 1 (by rw [hb.1]; decide)).1, c_E_N m.2.1 hb.2.2.1 (by decide)]; exact hb.2.2.2.1, by rw [c_E_N m.2.1 hb.2.2.1 (by decide)]; exact hb.2.2.2.2⟩
  refine c_iv (d := d + 1) (a := p) (vs := [kQ (some p), kQ (some a)]) (r := []) nn79 (by simp) rfl nc79 hB.1 (by decide) (cg79 hd (by omega) hB hBa m.1.1) (fun r s' hr => ?_)
  obtain ⟨er, bm⟩ := hr
  rw [er]
  have q2 := c_RP_BM m.1 hB (by omega) (by omega) bm
  refine ⟨⟨p, rfl, c_E_T q2.2.1 hB.1 (by decide), by rw [bm.1, hB.2.1]; simp, by omega⟩, c_RP_le (c_RP_tr m q2) (by omega) (by omega), fun x i hx => ?_⟩
  have hxl := (cT_lt (s := s) (a := x) (t := cT s x) rfl hx).1
  rw [bm.1, bm.2.1 x i (by omega) (fun e => by omega)]
  exact oth x i hx
/-- Bytes.copy -/
theorem cg78 (hd : 6 ≤ d) (h : c_ok s) (hb : c_By s a b) (hn : s.1 a 1 ≤ n ∧ n ≤ 600) (hq : 2 ≤ (cq s).1 ∧ n + 2 ≤ (cq s).2) : CG X Z (d + 2) 78 [kQ (some a)] s (c_nB s (n + 2)) := by
  have h59 : 59 ≤ cn s := h.2.1.2.2.2
  have hlen := hb.2.2.2.1
  have q1 := c_RP_new h (t := 1) (m := 2) (Or.inl (by decide)) (fun e => by cases e) ⟨by omega, by omega⟩
  have b1 := q1.2.2.2
  unfold c_bd at b1
  have tn : cT (c_new s 1 2) (cn s) = 1 := by rw [c_T_new, if_pos rfl]
  have hcn : cn (c_new s 1 2) = cn s + 1 := rfl
  have ea : (c_new s 1 2).1 a 1 = s.1 a 1 := c_new_A (c_lt_n hb.1 (by decide))
  have ta := c_new_T (t := 1) (m := 2) hb.1 (by decide)
  have hG := cg1 (X := X) (Z := Z) (d := d + 1) (a := cn s) (k := s.1 a 1) (by omega) q1.1 (by omega) tn c_new_An (by omega) ⟨by omega, by omega⟩
  have main : ∀ s1, c_RP (c_new s 1 2) s1 1 (s.1 a 1).toNat → s1 = c_uR (c_new (c_new s 1 2) 20 (s.1 a 1).toNat) (cn s) 0 (some (cn (c_new s 1 2))) → wc Z (fun t L st s' => CP X Z (d + 2) 78 t L st s' (c_nB s (n + 2))) (cC X Z (d + 2)) (c_nB s (n + 2)) [.aload 1, .aload 0, .invokevirtual 79, .aload 1, .areturn] [some (kQ (some a)), some (kQ (some (cn s)))] [] s1 := by
    intro s1 m1 e1
    have m01 := c_RP_tr q1 m1
    refine c_78e hd h hb (q := cn s + 1) (c_RP_le m01 (by omega) (by omega)) ⟨rfl, rfl⟩ ?_ (fun x i hx => ?_)
    · have t1 := c_E_T m1.2.1 tn (by decide)
      have r1 : s1.2.1 (cn s) 0 = some (cn s + 1) := by rw [e1, c_R_at, if_pos ⟨rfl, rfl⟩, hcn]
      obtain ⟨w1, w2⟩ := (m1.1.2.2.1 (cn s)).1 t1 _ r1
      exact ⟨t1, r1, w1, w2, (m1.1.2.2.1 (cn s + 1)).2.1 w1⟩
    · have hxl := (cT_lt (s := s) (a := x) (t := cT s x) rfl hx).1
      have hxn : x ≠ cn s := by unfold cn; omega
      have hxn2 : x ≠ cn (c_new s 1 2) := by rw [hcn]; unfold cn; omega
      rw [e1, c_R_at, if_neg (fun q => hxn q.1), c_new_R hxn2, c_new_R hxn]
      refine ⟨?_, rfl⟩
      show (c_new (c_new s 1 2) 20 (s.1 a 1).toNat).1 x i = _
      rw [c_new_A hxn2, c_new_A hxn]
  refine c_G_of (L := [some (kQ (some a)), none]) (by rw [nl78]; exact Nat.le_of_ble_eq_true rfl) (by rw [nl78]; rfl) ?_
  refine c_at nb78_0 (by omega) rfl ⟨⟨by omega, by show 2 ≤ _; omega⟩, a, rfl, ta, ?_⟩
  show wc Z _ _ _ _ _ [kI ((c_new s 1 2).1 a 1), kQ (some (cn s)), kQ (some (cn s))] (c_new s 1 2)
  rw [ea]
  refine c_iv (d := d + 1) (a := cn s) (vs := [kQ (some (cn s)), kI (s.1 a 1)]) (r := [kQ (some (cn s))]) nn1 (by simp) rfl nc1 tn (by decide) hG (fun r s1 hr => ?_)
  obtain ⟨er, m1, -, e1⟩ := hr
  rw [er]
  exact main s1 m1 e1
end E7
