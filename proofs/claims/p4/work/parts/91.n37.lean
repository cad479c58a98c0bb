/-! A TASK IS PERFORMED -/
def n_look (x : Int) (d : Nat) : List (Int × Int) → Nat
  | [] => d
  | (k, t) :: ps => if x = k then t.toNat else n_look x d ps
theorem n_sw_look {G : Nat → Prop} {d : Nat} {x : Int} : ∀ ps : List (Int × Int), (∀ kt ∈ ps, n_rng kt.1) → G (n_look x d ps) → n_sw G d x ps
  | [], _, h => h
  | (k, t) :: ps, hr, h => by
    refine ⟨hr (k, t) List.mem_cons_self, fun z => ?_, fun z => ?_⟩
    · unfold n_look at h
      rw [if_pos z] at h
      exact h
    · unfold n_look at h
      rw [if_neg z] at h
      exact n_sw_look ps (fun kt hkt => hr kt (List.mem_cons_of_mem _ hkt)) h
/-- a byte of code where there is room -/
def n_e (s : nS) (x : Int) : nS := (n_upd (n_upd s.1 30 (s.1 30 + 1)) 28 (n_T (decide (¬ s.1 28 = 0 ∨ 200 < s.1 30 + 1))), n_updA s.2 47 (s.1 30).toNat (n_by x))
theorem n_em_e {s : nS} {x : Int} (h : s.1 30 < 260) : n_em s x = n_e s x := by
  unfold n_em
  rw [if_pos h]
  rfl
/-- a field's number changes by x -/
def n_fd (s : nS) (k : Nat) (x : Int) : nS := (n_upd s.1 k (s.1 k + x), s.2)
section N37
variable {Z : Nat → List Int32} {d : Nat} {s : nS} {t x y : Int} {Post : nA → nS → Prop}
theorem ng136e {x : Int} (hd : 6 ≤ d) (hn : 0 ≤ s.1 30 ∧ s.1 30 < 260) (hb : s.1 28 = 0 ∨ s.1 28 = 1) : NG Z d 136 [xR 25, xI x] s (fun r s' => r = none ∧ s' = n_e s x) := by
  have := ng136 (Z := Z) (x := x) hd ⟨hn.1, by omega⟩ hb
  rw [n_em_e hn.2] at this
  exact this
theorem ng137e {x : Int} (hd : 6 ≤ d) (hn : 0 ≤ s.1 30 ∧ s.1 30 < 259) (hb : s.1 28 = 0 ∨ s.1 28 = 1) : NG Z (d + 1) 137 [xR 25, xI x] s (fun r s' => r = none ∧ s' = n_e (n_e s (n_shr x 8)) x) := by
  have := ng137 (Z := Z) (x := x) hd ⟨hn.1, by omega⟩ hb
  rw [n_em_e (s := s) (by omega), n_em_e (s := n_e s _) (by show s.1 30 + 1 < 260; omega)] at this
  exact this
theorem ng137z (hd : 6 ≤ d) (hn : 0 ≤ s.1 30 ∧ s.1 30 < 259) (hb : s.1 28 = 0 ∨ s.1 28 = 1) : NG Z (d + 1) 137 [xR 25, xI 0] s (fun r s' => r = none ∧ s' = n_e (n_e s 0) 0) := by
  have := ng137e (Z := Z) (x := 0) hd hn hb
  have e0 : n_shr 0 8 = 0 := by decide
  rw [e0] at this
  exact this
def n_Lp (t x y : Int) : nL := [some (xR 25), some (xI t), some (xI x), some (xI y)]
theorem n_p526 (hd : 6 ≤ d) {u : nS} (h : Post none u) : NP Z d 130 526 (n_Lp t x y) [] u Post := n_at nb130_526 hd rfl ⟨rfl, h⟩
theorem n_p0 (hd : 6 ≤ d) (pc : Nat) (ht : n_rng t) (hl : n_look t 465 [(0, 64), (1, 90), (2, 121), (3, 139), (4, 185), (5, 236), (6, 244), (7, 288), (8, 317), (9, 365), (10, 383), (11, 430)] = pc) (h : NP Z d 130 pc (n_Lp t x y) [] s Post) : NG Z d 130 [xR 25, xI t, xI x, xI y] s Post := by
  refine n_G_of (L := n_Lp t x y) (by rw [nl130]; exact Nat.le_of_ble_eq_true rfl) (by rw [nl130]; rfl) ?_
  refine n_at nb130_0 hd rfl ⟨ht, n_sw_look (G := fun pc => NP Z d 130 pc (n_Lp t x y) [] s Post) [(0, 64), (1, 90), (2, 121), (3, 139), (4, 185), (5, 236), (6, 244), (7, 288), (8, 317), (9, 365), (10, 383), (11, 430)] ?_ ?_⟩
  · intro kt hkt
    have : ∀ kt ∈ ([(0, 64), (1, 90), (2, 121), (3, 139), (4, 185), (5, 236), (6, 244), (7, 288), (8, 317), (9, 365), (10, 383), (11, 430)] : List (Int × Int)), -2147483648 ≤ kt.1 ∧ kt.1 < 2147483648 := by decide
    exact this kt hkt
  · show NP Z d 130 (n_look t 465 _) (n_Lp t x y) [] s Post
    rw [hl]
    exact h
/-- an atom -/
theorem n_pfA (hd : 6 ≤ d) (hf : 0 ≤ x ∧ x < 1300) (hk : n_rng (s.2 38 x.toNat)) (hk2 : ¬ s.2 38 x.toNat = 2) (hv : s.2 38 x.toNat = 1 → n_rng (s.2 39 x.toNat)) (hs : ∀ i : Nat, (i : Int) < s.1 32 → n_rng (s.2 48 i)) (hn : 0 ≤ s.1 32 ∧ s.1 32 ≤ 120) (hb : s.1 28 = 0 ∨ s.1 28 = 1) (hz : 0 ≤ s.1 30 ∧ s.1 30 ≤ 260) (hP : Post none (n_upd (n_atS s x).1 31 (s.1 31 + 1), (n_atS s x).2)) : NG Z (d + 3) 130 [xR 25, xI 0, xI x, xI y] s Post := by
  refine n_p0 (by omega) 64 ⟨by decide, by decide⟩ rfl ?_
  refine n_at nb130_64 (by omega) rfl ⟨hf, hk, ⟨by decide, by decide⟩, fun _ => ?_, fun z => absurd z hk2⟩
  refine n_at nb130_82 (by omega) rfl ?_
  refine n_iv (d := d + 2) (vs := [xR 25, xI x]) (r := []) nn135 (by simp) rfl nc135 (ng135 hd hf hk hv hs hn hb hz) (fun r s' hr => ?_)
  rw [hr.1, hr.2]
  exact n_p526 (by omega) hP
/-- a list -/
theorem n_pfL (hd : 6 ≤ d) (hf : 0 ≤ x ∧ x < 1300) (hk : s.2 38 x.toNat = 2) (h : NG Z d 131 [xR 25, xI x] s (fun r s' => r = none ∧ Post none s')) : NG Z (d + 1) 130 [xR 25, xI 0, xI x, xI y] s Post := by
  refine n_p0 (by omega) 64 ⟨by decide, by decide⟩ rfl ?_
  refine n_at nb130_64 (by omega) rfl ⟨hf, by rw [hk]; exact ⟨by decide, by decide⟩, ⟨by decide, by decide⟩, fun z => absurd hk z, fun _ => ?_⟩
  refine n_iv (d := d) (vs := [xR 25, xI x]) (r := []) nn131 (by simp) rfl nc131 h (fun r s' hr => ?_)
  rw [hr.1]
  exact n_p526 (by omega) hr.2
/-- the rest of a call's forms -/
theorem n_pf1 (hd : 6 ≤ d) (hx : x = -1 ∨ (0 ≤ x ∧ x < 1300)) (ht : 0 ≤ s.1 29 ∧ s.1 29 < 298) (h0 : x = -1 → Post none s) (h1 : 0 ≤ x → Post none (n_push (n_push s 1 (s.2 41 x.toNat) 0) 0 (s.2 40 x.toNat) 0)) : NG Z (d + 1) 130 [xR 25, xI 1, xI x, xI y] s Post := by
  refine n_p0 (by omega) 90 ⟨by decide, by decide⟩ rfl ?_
  refine n_at nb130_90 (by omega) rfl ⟨⟨by omega, by omega⟩, fun z => n_p526 (by omega) (h0 ?_), fun z => ?_⟩
  · have z : x < 0 := z
    omega
  have z : ¬ x < 0 := z
  refine ⟨⟨by omega, by omega⟩, ?_⟩
  refine n_iv (vs := [xR 25, xI 1, xI (s.2 41 x.toNat), xI 0]) (r := []) nn129 (by simp) rfl nc129 (ng129 (s := s) (d := d) (by omega) ⟨ht.1, by omega⟩) (fun r' s' hr => ?_)
  rw [hr.1, hr.2]
  refine ⟨⟨by omega, by omega⟩, ?_⟩
  refine n_iv (vs := [xR 25, xI 0, xI (s.2 40 x.toNat), xI 0]) (r := []) nn129 (by simp) rfl nc129 (ng129 (s := n_push s 1 (s.2 41 x.toNat) 0) (d := d) (by omega) ⟨by show 0 ≤ s.1 29 + 1; omega, by show s.1 29 + 1 < 300; omega⟩) (fun r' s' hr => ?_)
  rw [hr.1, hr.2]
  exact n_p526 (by omega) (h1 (by omega))
/-- a step of code, one shallower -/
theorem n_pf2 (hd : 6 ≤ d) (hz : 0 ≤ s.1 30 ∧ s.1 30 < 240) (hb : s.1 28 = 0 ∨ s.1 28 = 1) (hP : Post none (n_fd (n_e s x) 31 (-1))) : NG Z (d + 1) 130 [xR 25, xI 2, xI x, xI y] s Post := by
  refine n_p0 (by omega) 121 ⟨by decide, by decide⟩ rfl ?_
  refine n_at nb130_121 (by omega) rfl ?_
  refine n_iv (vs := [xR 25, xI x]) (r := []) nn136 (by simp) rfl nc136 (ng136e hd ⟨hz.1, by omega⟩ hb) (fun r s' hr => ?_)
  rw [hr.1, hr.2]
  exact n_p526 (by omega) hP
/-- a branch: the jump ahead, its place open -/
theorem n_pf3 (hd : 6 ≤ d) (hf : 0 ≤ x ∧ x < 1300) {xs : List Int} {c : Int} (hx : n_isch s.2 (s.2 39 x.toNat) xs) (hc : xs[2]? = some c) (ht : 0 ≤ s.1 29 ∧ s.1 29 < 298) (hz : 0 ≤ s.1 30 ∧ s.1 30 < 240) (hb : s.1 28 = 0 ∨ s.1 28 = 1) (hP : Post none (n_push (n_fd (n_e (n_e (n_push (n_e s 8) 4 x (s.1 30 + 1)) 0) 0) 31 (-1)) 0 (s.2 40 c.toNat) 0)) : NG Z (d + 2) 130 [xR 25, xI 3, xI x, xI y] s Post := by
  refine n_p0 (by omega) 139 ⟨by decide, by decide⟩ rfl ?_
  refine n_at nb130_139 (by omega) rfl ?_
  refine n_iv (d := d + 1) (vs := [xR 25, xI 8]) (r := []) nn136 (by simp) rfl nc136 (ng136e (by omega) ⟨hz.1, by omega⟩ hb) (fun r s' hr => ?_)
  rw [hr.1, hr.2]
  refine n_iv (d := d + 1) (vs := [xR 25, xI 4, xI (x), xI ((s.1 30 + 1))]) (r := []) nn129 (by simp) rfl nc129 (ng129 (s := (n_e s 8)) (by omega) ⟨ht.1, by show s.1 29 < 300; omega⟩) (fun r' s' hr => ?_)
  rw [hr.1, hr.2]
  refine n_iv (d := d + 1) (vs := [xR 25, xI 0]) (r := []) nn137 (by simp) rfl nc137 (ng137z (s := (n_push (n_e s 8) 4 x (s.1 30 + 1))) (by omega) ⟨by show 0 ≤ s.1 30 + 1; omega, by show s.1 30 + 1 < 259; omega⟩ (n_T01 _)) (fun r s' hr => ?_)
  rw [hr.1, hr.2]
  refine n_iv (d := d + 1) (vs := [xR 25, xI x, xI 2]) (r := [xI 0, xR 25]) nn122 (by simp) rfl nc122 (ng122 (s := (n_fd (n_e (n_e (n_push (n_e s 8) 4 x (s.1 30 + 1)) 0) 0) 31 (-1))) (xs := xs) (y := c) (by omega) hf ⟨by decide, by decide⟩ (n_ischT hx (fun _ => rfl) rfl) hc) (fun r' s' hr => ?_)
  rw [hr.1, hr.2]
  refine n_iv (d := d + 1) (vs := [xR 25, xI 0, xI (s.2 40 c.toNat), xI 0]) (r := []) nn129 (by simp) rfl nc129 (ng129 (s := (n_fd (n_e (n_e (n_push (n_e s 8) 4 x (s.1 30 + 1)) 0) 0) 31 (-1))) (by omega) ⟨by show 0 ≤ s.1 29 + 1; omega, by show s.1 29 + 1 < 300; omega⟩) (fun r' s' hr => ?_)
  rw [hr.1, hr.2]
  exact n_p526 (by omega) hP
/-- the other way -/
theorem n_pf4 (hd : 6 ≤ d) (hf : 0 ≤ x ∧ x < 1300) {xs : List Int} {c : Int} (hx : n_isch s.2 (s.2 39 x.toNat) xs) (hc : xs[3]? = some c) (ht : 0 ≤ s.1 29 ∧ s.1 29 < 298) (hz : 0 ≤ s.1 30 ∧ s.1 30 < 240) (hb : s.1 28 = 0 ∨ s.1 28 = 1) (hy : 0 ≤ y ∧ y < 250) (hP : Post none (n_push (n_fd (n_aim (n_e (n_e (n_push (n_e s 7) 5 (s.1 30 + 1) 0) 0) 0) y) 31 (-1)) 0 (s.2 40 c.toNat) 0)) : NG Z (d + 2) 130 [xR 25, xI 4, xI x, xI y] s Post := by
  refine n_p0 (by omega) 185 ⟨by decide, by decide⟩ rfl ?_
  refine n_at nb130_185 (by omega) rfl ?_
  refine n_iv (d := d + 1) (vs := [xR 25, xI 7]) (r := []) nn136 (by simp) rfl nc136 (ng136e (by omega) ⟨hz.1, by omega⟩ hb) (fun r s' hr => ?_)
  rw [hr.1, hr.2]
  refine n_iv (d := d + 1) (vs := [xR 25, xI 5, xI ((s.1 30 + 1)), xI (0)]) (r := []) nn129 (by simp) rfl nc129 (ng129 (s := (n_e s 7)) (by omega) ⟨ht.1, by show s.1 29 < 300; omega⟩) (fun r' s' hr => ?_)
  rw [hr.1, hr.2]
  refine n_iv (d := d + 1) (vs := [xR 25, xI 0]) (r := []) nn137 (by simp) rfl nc137 (ng137z (s := (n_push (n_e s 7) 5 (s.1 30 + 1) 0)) (by omega) ⟨by show 0 ≤ s.1 30 + 1; omega, by show s.1 30 + 1 < 259; omega⟩ (n_T01 _)) (fun r s' hr => ?_)
  rw [hr.1, hr.2]
  refine n_iv (d := d + 1) (vs := [xR 25, xI y]) (r := []) nn139 (by simp) rfl nc139 (ng139 (s := (n_e (n_e (n_push (n_e s 7) 5 (s.1 30 + 1) 0) 0) 0)) (by omega) ⟨hy.1, by omega⟩) (fun r s' hr => ?_)
  rw [hr.1, hr.2]
  refine n_iv (d := d + 1) (vs := [xR 25, xI x, xI 3]) (r := [xI 0, xR 25]) nn122 (by simp) rfl nc122 (ng122 (s := (n_fd (n_aim (n_e (n_e (n_push (n_e s 7) 5 (s.1 30 + 1) 0) 0) 0) y) 31 (-1))) (xs := xs) (y := c) (by omega) hf ⟨by decide, by decide⟩ (n_ischT hx (fun _ => rfl) rfl) hc) (fun r' s' hr => ?_)
  rw [hr.1, hr.2]
  refine n_iv (d := d + 1) (vs := [xR 25, xI 0, xI (s.2 40 c.toNat), xI 0]) (r := []) nn129 (by simp) rfl nc129 (ng129 (s := (n_fd (n_aim (n_e (n_e (n_push (n_e s 7) 5 (s.1 30 + 1) 0) 0) 0) y) 31 (-1))) (by omega) ⟨by show 0 ≤ s.1 29 + 1; omega, by show s.1 29 + 1 < 300; omega⟩) (fun r' s' hr => ?_)
  rw [hr.1, hr.2]
  exact n_p526 (by omega) hP
/-- a turn of a run -/
theorem n_pf10 (hd : 6 ≤ d) (hf : 0 ≤ x ∧ x < 1300) {xs : List Int} {c : Int} (hx : n_isch s.2 (s.2 39 x.toNat) xs) (hc : xs[2]? = some c) (ht : 0 ≤ s.1 29 ∧ s.1 29 < 298) (hz : 0 ≤ s.1 30 ∧ s.1 30 < 240) (hb : s.1 28 = 0 ∨ s.1 28 = 1) (hP : Post none (n_push (n_fd (n_e (n_e (n_push (n_e s 8) 11 (s.1 30 + 1) y) 0) 0) 31 (-1)) 0 (s.2 40 c.toNat) 0)) : NG Z (d + 2) 130 [xR 25, xI 10, xI x, xI y] s Post := by
  refine n_p0 (by omega) 383 ⟨by decide, by decide⟩ rfl ?_
  refine n_at nb130_383 (by omega) rfl ?_
  refine n_iv (d := d + 1) (vs := [xR 25, xI 8]) (r := []) nn136 (by simp) rfl nc136 (ng136e (by omega) ⟨hz.1, by omega⟩ hb) (fun r s' hr => ?_)
  rw [hr.1, hr.2]
  refine n_iv (d := d + 1) (vs := [xR 25, xI 11, xI ((s.1 30 + 1)), xI (y)]) (r := []) nn129 (by simp) rfl nc129 (ng129 (s := (n_e s 8)) (by omega) ⟨ht.1, by show s.1 29 < 300; omega⟩) (fun r' s' hr => ?_)
  rw [hr.1, hr.2]
  refine n_iv (d := d + 1) (vs := [xR 25, xI 0]) (r := []) nn137 (by simp) rfl nc137 (ng137z (s := (n_push (n_e s 8) 11 (s.1 30 + 1) y)) (by omega) ⟨by show 0 ≤ s.1 30 + 1; omega, by show s.1 30 + 1 < 259; omega⟩ (n_T01 _)) (fun r s' hr => ?_)
  rw [hr.1, hr.2]
  refine n_iv (d := d + 1) (vs := [xR 25, xI x, xI 2]) (r := [xI 0, xR 25]) nn122 (by simp) rfl nc122 (ng122 (s := (n_fd (n_e (n_e (n_push (n_e s 8) 11 (s.1 30 + 1) y) 0) 0) 31 (-1))) (xs := xs) (y := c) (by omega) hf ⟨by decide, by decide⟩ (n_ischT hx (fun _ => rfl) rfl) hc) (fun r' s' hr => ?_)
  rw [hr.1, hr.2]
  refine n_iv (d := d + 1) (vs := [xR 25, xI 0, xI (s.2 40 c.toNat), xI 0]) (r := []) nn129 (by simp) rfl nc129 (ng129 (s := (n_fd (n_e (n_e (n_push (n_e s 8) 11 (s.1 30 + 1) y) 0) 0) 31 (-1))) (by omega) ⟨by show 0 ≤ s.1 29 + 1; omega, by show s.1 29 + 1 < 300; omega⟩) (fun r' s' hr => ?_)
  rw [hr.1, hr.2]
  exact n_p526 (by omega) hP
/-- behind a branch -/
theorem n_pf5 (hd : 6 ≤ d) (hx : 0 ≤ x ∧ x < 250) (hP : Post none (n_aim s x)) : NG Z (d + 1) 130 [xR 25, xI 5, xI x, xI y] s Post := by
  refine n_p0 (by omega) 236 ⟨by decide, by decide⟩ rfl ?_
  refine n_at nb130_236 (by omega) rfl ?_
  refine n_iv (vs := [xR 25, xI x]) (r := []) nn139 (by simp) rfl nc139 (ng139 hd ⟨hx.1, by omega⟩) (fun r s' hr => ?_)
  rw [hr.1, hr.2]
  exact n_p526 (by omega) hP
def n_kn (s : nS) (v sl : Int) : nS := (n_upd s.1 32 (s.1 32 + 1), n_updA (n_updA s.2 48 (s.1 32).toNat v) 49 (s.1 32).toNat sl)
/-- a name for the number on top -/
theorem n_pf6 (hd : 6 ≤ d) (hf : 0 ≤ x ∧ x < 1300) {xs : List Int} {b c : Int} (hx : n_isch s.2 (s.2 39 x.toNat) xs) (hb : xs[1]? = some b) (hc : xs[3]? = some c) (hbr : 0 ≤ s.2 40 b.toNat ∧ s.2 40 b.toNat < 1300) (ht : 0 ≤ s.1 29 ∧ s.1 29 < 298) (hn : 0 ≤ s.1 32 ∧ s.1 32 < 120) (hP : Post none (n_push (n_push (n_kn s (s.2 39 (s.2 40 b.toNat).toNat) (s.1 31 - 1)) 7 0 0) 0 (s.2 40 c.toNat) 0)) : NG Z (d + 1) 130 [xR 25, xI 6, xI x, xI y] s Post := by
  refine n_p0 (by omega) 244 ⟨by decide, by decide⟩ rfl ?_
  refine n_at nb130_244 (by omega) rfl ?_
  refine n_iv (vs := [xR 25, xI x, xI 1]) (r := [xR 39, xR 25]) nn122 (by simp) rfl nc122 (ng122 (s := s) (xs := xs) (y := b) hd hf ⟨by decide, by decide⟩ hx hb) (fun r' s' hr => ?_)
  rw [hr.1, hr.2]
  refine ⟨hbr, ?_⟩
  refine n_iv (vs := [xR 25, xI (s.2 39 (s.2 40 b.toNat).toNat), xI (s.1 31 - 1)]) (r := []) nn127 (by simp) rfl nc127 (ng127 (s := s) hd hn) (fun r' s' hr => ?_)
  rw [hr.1, hr.2]
  refine n_iv (vs := [xR 25, xI 7, xI 0, xI 0]) (r := []) nn129 (by simp) rfl nc129 (ng129 (s := n_kn s (s.2 39 (s.2 40 b.toNat).toNat) (s.1 31 - 1)) hd ⟨ht.1, by show s.1 29 < 300; omega⟩) (fun r' s' hr => ?_)
  rw [hr.1, hr.2]
  refine n_iv (vs := [xR 25, xI x, xI 3]) (r := [xI 0, xR 25]) nn122 (by simp) rfl nc122 (ng122 (s := n_push (n_kn s (s.2 39 (s.2 40 b.toNat).toNat) (s.1 31 - 1)) 7 0 0) (xs := xs) (y := c) hd hf ⟨by decide, by decide⟩ (n_ischT hx (fun _ => rfl) rfl) hc) (fun r' s' hr => ?_)
  rw [hr.1, hr.2]
  refine n_iv (vs := [xR 25, xI 0, xI (s.2 40 c.toNat), xI 0]) (r := []) nn129 (by simp) rfl nc129 (ng129 (s := n_push (n_kn s (s.2 39 (s.2 40 b.toNat).toNat) (s.1 31 - 1)) 7 0 0) hd ⟨by show 0 ≤ s.1 29 + 1; omega, by show s.1 29 + 1 < 300; omega⟩) (fun r' s' hr => ?_)
  rw [hr.1, hr.2]
  exact n_p526 (by omega) hP
/-- the name is gone -/
theorem n_pf7 (hd : 6 ≤ d) (hz : 0 ≤ s.1 30 ∧ s.1 30 < 240) (hb : s.1 28 = 0 ∨ s.1 28 = 1) (hP : Post none (n_fd (n_fd (n_e s 9) 31 (-1)) 32 (-1))) : NG Z (d + 1) 130 [xR 25, xI 7, xI x, xI y] s Post := by
  refine n_p0 (by omega) 288 ⟨by decide, by decide⟩ rfl ?_
  refine n_at nb130_288 (by omega) rfl ?_
  refine n_iv (vs := [xR 25, xI 9]) (r := []) nn136 (by simp) rfl nc136 (ng136e hd ⟨hz.1, by omega⟩ hb) (fun r s' hr => ?_)
  rw [hr.1, hr.2]
  exact n_p526 (by omega) hP
/-- many forms, one behind the other -/
theorem n_pf8 (hd : 6 ≤ d) (hx : x = -1 ∨ (0 ≤ x ∧ x < 1300)) (ht : 0 ≤ s.1 29 ∧ s.1 29 < 298) (hz : 0 ≤ s.1 30 ∧ s.1 30 < 240) (hb : s.1 28 = 0 ∨ s.1 28 = 1) (h0 : x = -1 → Post none s) (h1 : 0 ≤ x → Post none (n_push (n_push (n_fd (n_e s 10) 31 (-1)) 8 (s.2 41 x.toNat) 0) 0 (s.2 40 x.toNat) 0)) : NG Z (d + 1) 130 [xR 25, xI 8, xI x, xI y] s Post := by
  refine n_p0 (by omega) 317 ⟨by decide, by decide⟩ rfl ?_
  refine n_at nb130_317 (by omega) rfl ⟨⟨by omega, by omega⟩, fun z => n_p526 (by omega) (h0 ?_), fun z => ?_⟩
  · have z : x < 0 := z
    omega
  have z : ¬ x < 0 := z
  refine n_iv (vs := [xR 25, xI 10]) (r := []) nn136 (by simp) rfl nc136 (ng136e hd ⟨hz.1, by omega⟩ hb) (fun r s' hr => ?_)
  rw [hr.1, hr.2]
  refine ⟨⟨by omega, by omega⟩, ?_⟩
  refine n_iv (vs := [xR 25, xI 8, xI (s.2 41 x.toNat), xI 0]) (r := []) nn129 (by simp) rfl nc129 (ng129 (s := n_fd (n_e s 10) 31 (-1)) hd ⟨ht.1, by show s.1 29 < 300; omega⟩) (fun r' s' hr => ?_)
  rw [hr.1, hr.2]
  refine ⟨⟨by omega, by omega⟩, ?_⟩
  refine n_iv (vs := [xR 25, xI 0, xI (s.2 40 x.toNat), xI 0]) (r := []) nn129 (by simp) rfl nc129 (ng129 (s := n_push (n_fd (n_e s 10) 31 (-1)) 8 (s.2 41 x.toNat) 0) hd ⟨by show 0 ≤ s.1 29 + 1; omega, by show s.1 29 + 1 < 300; omega⟩) (fun r' s' hr => ?_)
  rw [hr.1, hr.2]
  exact n_p526 (by omega) (h1 (by omega))
/-- a number goes into a slot -/
theorem n_pf9 (hd : 6 ≤ d) (hf : 0 ≤ x ∧ x < 1300) (hk : n_rng (s.2 38 x.toNat)) (hv : s.2 38 x.toNat = 1 → n_rng (s.2 39 x.toNat)) (hs : ∀ i : Nat, (i : Int) < s.1 32 → n_rng (s.2 48 i)) (hn : 0 ≤ s.1 32 ∧ s.1 32 ≤ 120) (hz : 0 ≤ s.1 30 ∧ s.1 30 < 240) (hb : s.1 28 = 0 ∨ s.1 28 = 1) (hP : Post none (n_e (n_slotS (n_e s 11) x) (if n_slotK s x < 0 then 0 else s.2 49 (n_slotK s x).toNat))) : NG Z (d + 1) 130 [xR 25, xI 9, xI x, xI y] s Post := by
  refine n_p0 (by omega) 365 ⟨by decide, by decide⟩ rfl ?_
  refine n_at nb130_365 (by omega) rfl ?_
  refine n_iv (vs := [xR 25, xI 11]) (r := []) nn136 (by simp) rfl nc136 (ng136e hd ⟨hz.1, by omega⟩ hb) (fun r s' hr => ?_)
  rw [hr.1, hr.2]
  refine n_iv (vs := [xR 25, xI x]) (r := [xR 25]) nn138 (by simp) rfl nc138 (ng138 (s := n_e s 11) hd hf hk hv hs hn (n_T01 _)) (fun r s' hr => ?_)
  rw [hr.1, hr.2]
  refine n_iv (vs := [xR 25, xI (if n_slotK s x < 0 then 0 else s.2 49 (n_slotK s x).toNat)]) (r := []) nn136 (by simp) rfl nc136 (ng136e (s := n_slotS (n_e s 11) x) hd ⟨by show 0 ≤ s.1 30 + 1; omega, by show s.1 30 + 1 < 260; omega⟩ (n_T01 _)) (fun r s' hr => ?_)
  rw [hr.1, hr.2]
  exact n_p526 (by omega) hP
/-- back to a run's beginning -/
theorem n_pf11 (hd : 6 ≤ d) (hx : 0 ≤ x ∧ x < 250) (hz : 0 ≤ s.1 30 ∧ s.1 30 < 240) (hb : s.1 28 = 0 ∨ s.1 28 = 1) (hP : Post none (n_e (n_e (n_e (n_aim (n_e (n_e (n_e (n_e s 10) 7) (n_shr y 8)) y) x) 0) 0) 0)) : NG Z (d + 2) 130 [xR 25, xI 11, xI x, xI y] s Post := by
  refine n_p0 (by omega) 430 ⟨by decide, by decide⟩ rfl ?_
  refine n_at nb130_430 (by omega) rfl ?_
  refine n_iv (d := d + 1) (vs := [xR 25, xI 10]) (r := []) nn136 (by simp) rfl nc136 (ng136e (by omega) ⟨hz.1, by omega⟩ hb) (fun r s' hr => ?_)
  rw [hr.1, hr.2]
  refine n_iv (d := d + 1) (vs := [xR 25, xI 7]) (r := []) nn136 (by simp) rfl nc136 (ng136e (s := n_e s 10) (by omega) ⟨by show 0 ≤ s.1 30 + 1; omega, by show s.1 30 + 1 < 260; omega⟩ (n_T01 _)) (fun r s' hr => ?_)
  rw [hr.1, hr.2]
  refine n_iv (d := d + 1) (vs := [xR 25, xI y]) (r := []) nn137 (by simp) rfl nc137 (ng137e (s := n_e (n_e s 10) 7) (by omega) ⟨by show 0 ≤ s.1 30 + 1 + 1; omega, by show s.1 30 + 1 + 1 < 259; omega⟩ (n_T01 _)) (fun r s' hr => ?_)
  rw [hr.1, hr.2]
  refine n_iv (d := d + 1) (vs := [xR 25, xI x]) (r := []) nn139 (by simp) rfl nc139 (ng139 (s := n_e (n_e (n_e (n_e s 10) 7) (n_shr y 8)) y) (by omega) ⟨hx.1, by omega⟩) (fun r s' hr => ?_)
  rw [hr.1, hr.2]
  refine n_iv (d := d + 1) (vs := [xR 25, xI 0]) (r := []) nn136 (by simp) rfl nc136 (ng136e (s := n_aim (n_e (n_e (n_e (n_e s 10) 7) (n_shr y 8)) y) x) (by omega) ⟨by show 0 ≤ s.1 30 + 1 + 1 + 1 + 1; omega, by show s.1 30 + 1 + 1 + 1 + 1 < 260; omega⟩ (n_T01 _)) (fun r s' hr => ?_)
  rw [hr.1, hr.2]
  refine n_iv (d := d + 1) (vs := [xR 25, xI 0]) (r := []) nn137 (by simp) rfl nc137 (ng137z (s := n_e (n_aim (n_e (n_e (n_e (n_e s 10) 7) (n_shr y 8)) y) x) 0) (by omega) ⟨by show 0 ≤ s.1 30 + 1 + 1 + 1 + 1 + 1; omega, by show s.1 30 + 1 + 1 + 1 + 1 + 1 < 259; omega⟩ (n_T01 _)) (fun r s' hr => ?_)
  rw [hr.1, hr.2]
  exact n_p526 (by omega) hP
def n_mark (s : nS) (x : Int) : nS := (n_upd s.1 34 (s.1 34 + 1), n_updA (n_updA s.2 50 (s.1 34).toNat (s.1 30)) 51 (s.1 34).toNat x)
/-- a call -/
theorem n_pf12 (hd : 6 ≤ d) (hm : 0 ≤ s.1 34 ∧ s.1 34 < 70) (hz : 0 ≤ s.1 30 ∧ s.1 30 < 240) (hb : s.1 28 = 0 ∨ s.1 28 = 1) (hP : Post none (n_fd (n_e (n_e (n_e (n_mark (n_e s 12) x) 0) 0) y) 31 (1 - y))) : NG Z (d + 2) 130 [xR 25, xI 12, xI x, xI y] s Post := by
  refine n_p0 (by omega) 465 ⟨by decide, by decide⟩ rfl ?_
  refine n_at nb130_465 (by omega) rfl ?_
  refine n_iv (d := d + 1) (vs := [xR 25, xI 12]) (r := []) nn136 (by simp) rfl nc136 (ng136e (by omega) ⟨hz.1, by omega⟩ hb) (fun r s' hr => ?_)
  rw [hr.1, hr.2]
  refine ⟨hm, hm, ?_⟩
  refine n_iv (d := d + 1) (vs := [xR 25, xI 0]) (r := []) nn137 (by simp) rfl nc137 (ng137z (s := n_mark (n_e s 12) x) (by omega) ⟨by show 0 ≤ s.1 30 + 1; omega, by show s.1 30 + 1 < 259; omega⟩ (n_T01 _)) (fun r s' hr => ?_)
  rw [hr.1, hr.2]
  refine n_iv (d := d + 1) (vs := [xR 25, xI y]) (r := []) nn136 (by simp) rfl nc136 (ng136e (s := n_e (n_e (n_mark (n_e s 12) x) 0) 0) (by omega) ⟨by show 0 ≤ s.1 30 + 1 + 1 + 1; omega, by show s.1 30 + 1 + 1 + 1 < 260; omega⟩ (n_T01 _)) (fun r s' hr => ?_)
  rw [hr.1, hr.2]
  exact n_p526 (by omega) hP
end N37
