/-! THE TASK MACHINE: steps of code, as tasks put them -/
section N41
variable {Z : Nat → List Int32} {d r h : Nat} {P : nS → Prop} {b s t : nS} {D H O D' H' O' : Nat → Int} {Q Q' : Nat → Prop} {z z' w i : Nat} {f c v : Int} {xs : List Int}
theorem n_SB_E {e e' j : Int} (hs : n_SB s e) (hE : n_E j (s.1 32) w s D H O t D' H' O') (hv : t.1 32 = s.1 32) (he : e ≤ e') : n_SB t e' := by
  intro k hk
  rw [hv] at hk
  have := hs k hk
  rw [hE.2.2.2.2.2 k hk]
  omega
/-- a step of one byte, one shallower -/
theorem n_op1 {op : Int} (hB : n_BI b s D H O Q z) (hop : (op = 10 ∧ 1 ≤ s.1 31) ∨ (((2 ≤ op ∧ op ≤ 6) ∨ op = 9) ∧ 2 ≤ s.1 31)) (h0 : (n_fd (n_e s op) 31 (-1)).1 28 = 0) (hw : w ≤ z) : n_BI b (n_fd (n_e s op) 31 (-1)) (n_upd D (z + 1) (s.1 31 - 1)) H O Q (z + 1) ∧ n_E f v w s D H O (n_fd (n_e s op) 31 (-1)) (n_upd D (z + 1) (s.1 31 - 1)) H O := by
  obtain ⟨a0, ⟨g1, g2, g3⟩, a2, a3, ⟨d1, d2, d3⟩, a5, a6⟩ := hB
  have hz : s.1 30 + 1 ≤ 200 := (n_e28_0 (s := s) (x := op) h0).2
  have hc : ∀ j, (n_fd (n_e s op) 31 (-1)).2 47 j = if j = z then n_by op else s.2 47 j := fun j => n_e47 g1
  have q1 : ∀ k, ¬ (28 ≤ k ∧ k ≤ 31) → (n_fd (n_e s op) 31 (-1)).1 k = s.1 k := fun k hk => by
    show n_upd (n_upd (n_upd s.1 30 _) 28 _) 31 _ k = _
    rw [n_u_ne (by omega), n_u_ne (by omega), n_u_ne (by omega)]
  have q2 : ∀ a i, ¬ (44 ≤ a ∧ a ≤ 47) → (n_fd (n_e s op) 31 (-1)).2 a i = s.2 a i := fun a i ha => by
    show n_updA s.2 47 _ _ a i = _
    rw [n_ua_ne (by omega)]
  have hcb : ∀ j, j < z → (n_fd (n_e s op) 31 (-1)).2 47 j = s.2 47 j := fun j hj => by
    rw [hc, if_neg (by omega)]
  have hop2 : n_by op = op := by
    have := n_by_o op.toNat (by omega)
    rw [show ((op.toNat : Nat) : Int) = op from by omega] at this
    exact this
  have hcz : (n_fd (n_e s op) 31 (-1)).2 47 z = op := by rw [hc, if_pos rfl, hop2]
  refine ⟨n_BI_app (w := 1) (e := s.1 31 - 1) (Q' := Q) ⟨a0, ⟨g1, g2, g3⟩, a2, a3, ⟨d1, d2, d3⟩, a5, a6⟩ (n_bf_fd (n_bf_e a0) (by decide)) (by decide) (by show s.1 30 + 1 = _; omega) (by omega) h0 rfl (by omega) (by omega) q1 q2 hcb (fun _ h => h) ?_, n_E_app q1 q2 hcb (by decide) hw (fun _ _ => ⟨rfl, rfl, rfl⟩)⟩
  unfold n_cv
  rw [hcz, n_u_eq, n_u_ne (show z ≠ z + 1 by omega), d1]
  rcases hop with ⟨o1, o2⟩ | ⟨o1 | o1, o2⟩
  · right; right; right; right; right; right; left
    exact ⟨o1, by omega, rfl, o2⟩
  · right; right; left
    exact ⟨o1, by omega, rfl, o2⟩
  · right; right; right; right; right; left
    exact ⟨o1, by omega, rfl, o2⟩
/-- a jump whose place stays open -/
theorem n_jmp {op k x y : Int} (hB : n_BI b s D H O Q z) (hi : s.1 29 = (i : Int)) (hop : op = 7 ∨ op = 8) (h31 : 1 ≤ s.1 31) (h0 : (n_fd (n_e (n_e (n_push (n_e s op) k x y) 0) 0) 31 (-1)).1 28 = 0) (hw : w ≤ z) : n_BI b (n_fd (n_e (n_e (n_push (n_e s op) k x y) 0) 0) 31 (-1)) (n_upd D (z + 3) (s.1 31 - 1)) H O (fun q => Q q ∨ q = z + 1) (z + 3) ∧ n_E i v w s D H O (n_fd (n_e (n_e (n_push (n_e s op) k x y) 0) 0) 31 (-1)) (n_upd D (z + 3) (s.1 31 - 1)) H O ∧ ((n_fd (n_e (n_e (n_push (n_e s op) k x y) 0) 0) 31 (-1)).2 44 i = k ∧ (n_fd (n_e (n_e (n_push (n_e s op) k x y) 0) 0) 31 (-1)).2 45 i = x ∧ (n_fd (n_e (n_e (n_push (n_e s op) k x y) 0) 0) 31 (-1)).2 46 i = y) ∧ z + 3 ≤ 200 ∧ (n_fd (n_e (n_e (n_push (n_e s op) k x y) 0) 0) 31 (-1)).2 47 z = op := by
  obtain ⟨a0, ⟨g1, g2, g3⟩, a2, a3, ⟨d1, d2, d3⟩, a5, a6⟩ := hB
  have hz : s.1 30 + 1 + 1 + 1 ≤ 200 := (n_e28_0 (s := n_e (n_push (n_e s op) k x y) 0) (x := 0) h0).2
  have e1 : (n_push (n_e s op) k x y).1 30 = ((z + 1 : Nat) : Int) := n_e30 (s := s) (x := op) g1
  have e2 := n_e30 (s := n_push (n_e s op) k x y) (x := 0) e1
  have hc : ∀ j, (n_fd (n_e (n_e (n_push (n_e s op) k x y) 0) 0) 31 (-1)).2 47 j = if j = z + 1 + 1 then n_by 0 else if j = z + 1 then n_by 0 else if j = z then n_by op else s.2 47 j := fun j => by
    show (n_e (n_e (n_push (n_e s op) k x y) 0) 0).2 47 j = _
    rw [n_e47 e2, n_e47 e1]
    show (if j = z + 1 + 1 then n_by 0 else if j = z + 1 then n_by 0 else (n_e s op).2 47 j) = _
    rw [n_e47 g1]
  have q1 : ∀ q, ¬ (28 ≤ q ∧ q ≤ 31) → (n_fd (n_e (n_e (n_push (n_e s op) k x y) 0) 0) 31 (-1)).1 q = s.1 q := fun q hk => by
    show n_upd (n_upd (n_upd (n_upd (n_upd (n_upd (n_upd (n_upd s.1 30 _) 28 _) 29 _) 30 _) 28 _) 30 _) 28 _) 31 _ q = _
    rw [n_u_ne (by omega), n_u_ne (by omega), n_u_ne (by omega), n_u_ne (by omega), n_u_ne (by omega), n_u_ne (by omega), n_u_ne (by omega), n_u_ne (by omega)]
  have q2 : ∀ a i, ¬ (44 ≤ a ∧ a ≤ 47) → (n_fd (n_e (n_e (n_push (n_e s op) k x y) 0) 0) 31 (-1)).2 a i = s.2 a i := fun a i ha => by
    show n_updA (n_updA (n_updA (n_updA (n_updA (n_updA s.2 47 _ _) 44 _ _) 45 _ _) 46 _ _) 47 _ _) 47 _ _ a i = _
    rw [n_ua_ne (by omega), n_ua_ne (by omega), n_ua_ne (by omega), n_ua_ne (by omega), n_ua_ne (by omega), n_ua_ne (by omega)]
  have hcb : ∀ j, j < z → (n_fd (n_e (n_e (n_push (n_e s op) k x y) 0) 0) 31 (-1)).2 47 j = s.2 47 j := fun j hj => by
    rw [hc, if_neg (by omega), if_neg (by omega), if_neg (by omega)]
  have hop2 : n_by op = op := by rcases hop with rfl | rfl <;> decide
  have hcz : (n_fd (n_e (n_e (n_push (n_e s op) k x y) 0) 0) 31 (-1)).2 47 z = op := by rw [hc, if_neg (by omega), if_neg (by omega), if_pos rfl, hop2]
  obtain ⟨p1, p2, p3, p4⟩ := n_pushed (s := n_e s op) (k := k) (x := x) (y := y) (i := i) hi
  have ht : ∀ j : Nat, (j : Int) < (i : Int) → (n_fd (n_e (n_e (n_push (n_e s op) k x y) 0) 0) 31 (-1)).2 44 j = s.2 44 j ∧ (n_fd (n_e (n_e (n_push (n_e s op) k x y) 0) 0) 31 (-1)).2 45 j = s.2 45 j ∧ (n_fd (n_e (n_e (n_push (n_e s op) k x y) 0) 0) 31 (-1)).2 46 j = s.2 46 j := fun j hj => by
    refine ⟨?_, ?_, ?_⟩
    · show n_updA s.2 44 (s.1 29).toNat k 44 j = _
      rw [n_ua_eq, if_neg (by omega)]
    · show n_updA s.2 45 (s.1 29).toNat x 45 j = _
      rw [n_ua_eq, if_neg (by omega)]
    · show n_updA s.2 46 (s.1 29).toNat y 46 j = _
      rw [n_ua_eq, if_neg (by omega)]
  have hz1 := a5.2.1
  refine ⟨n_BI_app (w := 3) (e := s.1 31 - 1) ⟨a0, ⟨g1, g2, g3⟩, a2, a3, ⟨d1, d2, d3⟩, a5, a6⟩ (n_bf_fd (n_bf_e (n_bf_e (n_bf_push (n_bf_e a0)))) (by decide)) (by decide) (by show s.1 30 + 1 + 1 + 1 = _; omega) (by omega) h0 rfl (by omega) (by omega) q1 q2 hcb (fun _ h => Or.inl h) ?_, n_E_app q1 q2 hcb (by decide) hw ht, ⟨p2, p3, p4⟩, by omega, hcz⟩
  unfold n_cv
  rw [hcz, n_u_eq, n_u_ne (show z ≠ z + 3 by omega), n_u_ne (show z + 1 ≠ z + 3 by omega), n_u_ne (show z + 2 ≠ z + 3 by omega), d1]
  rcases hop with o | o
  · right; right; right; left
    exact ⟨o, by omega, by omega, hz1 _ (by omega), hz1 _ (by omega), Or.inl (Or.inr rfl)⟩
  · right; right; right; right; left
    exact ⟨o, by omega, rfl, hz1 _ (by omega), hz1 _ (by omega), h31, Or.inl (Or.inr rfl)⟩
/-- a place is aimed at the end of the code -/
theorem n_BI_aim {p : Nat} (hB : n_BI b s D H O Q z) (hp : 0 ≤ D p) (hpz : p + 3 ≤ z) (hop : (s.2 47 p = 7 ∧ s.1 31 = D p) ∨ (s.2 47 p = 8 ∧ s.1 31 = D p - 1)) (hQ : ∀ q, Q q → q ≠ p + 1 → Q' q) : n_BI b (n_aim s ((p : Int) + 1)) D H O Q' z := by
  obtain ⟨a0, ⟨g1, g2, g3⟩, a2, a3, ⟨d1, d2, d3⟩, a5, a6⟩ := hB
  have hc : ∀ j, (n_aim s ((p : Int) + 1)).2 47 j = if j = p + 2 then n_by (s.1 30) else if j = p + 1 then n_by (n_shr (s.1 30) 8) else s.2 47 j := fun j => by
    show n_updA (n_updA s.2 47 ((p : Int) + 1).toNat _) 47 ((p : Int) + 1 + 1).toNat _ 47 j = _
    rw [n_ua_eq, n_ua_eq, show ((p : Int) + 1 + 1).toNat = p + 2 from by omega, show ((p : Int) + 1).toNat = p + 1 from by omega]
  have hin : D (p + 1) < 0 ∧ D (p + 2) < 0 := by
    have := a5.2.2 p (by omega) hp
    unfold n_cv at this
    omega
  refine ⟨n_bf_aim a0, ⟨g1, g2, g3⟩, n_sm_GF (s := s) (t := n_aim s ((p : Int) + 1)) ⟨⟨rfl, rfl, rfl⟩, fun a i ha => ?_⟩ a2, a3, ⟨d1, d2, d3⟩, ?_, ?_⟩
  · show n_updA (n_updA s.2 47 _ _) 47 _ _ a i = _
    rw [n_ua_ne (by omega), n_ua_ne (by omega)]
  · refine n_BC_fill (p := p) a5 hp hpz ?_ (fun j h1 h2 => ?_) ?_ hQ
    · rw [d1]; exact hop
    · rw [hc, if_neg (by omega), if_neg (by omega)]
    · rw [← g1]
      refine n_tg_put ⟨by omega, by omega⟩ ?_ ?_
      · rw [hc, if_neg (by omega), if_pos rfl]
      · rw [hc, if_pos rfl]
  · refine ⟨a6.1, fun j hj => ?_⟩
    obtain ⟨n1, q, n2, n3, n4, n5⟩ := a6.2 j hj
    refine ⟨n1, q, n2, n3, n4, ?_⟩
    rw [hc, if_neg (fun h => by rw [h] at n4; omega), if_neg (fun h => by rw [h] at n4; omega)]
    exact n5
theorem n_E_aim {p : Nat} {j : Int} (hw : w ≤ p) : n_E j v w s D H O (n_aim s ((p : Int) + 1)) D H O := by
  have hc : ∀ a j, a ≠ 47 → (n_aim s ((p : Int) + 1)).2 a j = s.2 a j := fun a j ha => by
    show n_updA (n_updA s.2 47 _ _) 47 _ _ a j = _
    rw [n_ua_ne ha, n_ua_ne ha]
  refine ⟨n_sm_old ⟨⟨rfl, rfl, rfl⟩, fun a i ha => hc a i (by omega)⟩, Int.le_refl _, fun j hj => ?_, fun _ _ => rfl, fun j _ => ⟨hc _ _ (by decide), hc _ _ (by decide), hc _ _ (by decide)⟩, fun k _ => hc _ _ (by decide)⟩
  show n_updA (n_updA s.2 47 ((p : Int) + 1).toNat _) 47 ((p : Int) + 1 + 1).toNat _ 47 j = _
  rw [n_ua_eq, n_ua_eq, if_neg (by omega), if_neg (by omega)]
theorem n_aim47 {p j : Nat} (h1 : j ≠ p + 1) (h2 : j ≠ p + 2) : (n_aim s ((p : Int) + 1)).2 47 j = s.2 47 j := by
  show n_updA (n_updA s.2 47 ((p : Int) + 1).toNat _) 47 ((p : Int) + 1 + 1).toNat _ 47 j = _
  rw [n_ua_eq, n_ua_eq, if_neg (by omega), if_neg (by omega)]
end N41
