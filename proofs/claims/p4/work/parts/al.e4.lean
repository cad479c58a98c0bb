/-! A BODY IS TRANSLATED -/
section E4
variable {X : Nat → mm_O} {Z : Nat → List Int32} {d : Nat} {s s0 s' S t : cS} {a b i u f : Nat} {x v k j k0 j0 sl n op nm : Int} {o w : Option Nat}
theorem c_nof {p : Option Nat} (hn : c_TN k j s t) (hp : c_fo t p) (hm : ∀ b, p = some b → cn s ≤ b) : p = none := by
  cases p with
  | none => rfl
  | some b =>
    have h1 := (cT_lt (hn.2.2.2.1 b (hp b rfl)) (by decide)).1
    have h2 := hm b rfl
    unfold cn at h2
    omega
theorem c_l73 (hd : 6 ≤ d) (hT : c_TR X Z (d + 2) (n + 1)) : ∀ (m : Nat) (t : cS) (p : Option Nat), c_TC t → c_TN 0 0 s t → c_fo t p → c_rp t w → (∀ b, p = some b → cn s ≤ b + m) → CP X Z (d + 3) 73 25 [some (kQ (some 7)), some (kQ (some f)), some (kQ w), some (kI sl), some (kI n), some (kQ p)] [] t (c_TP s 0 0 c_vn) := by
  intro m
  induction m with
  | zero =>
    intro t p hc hn hp hw hm
    exact c_at nb73_25 (by omega) rfl ⟨fun _ => c_at nb73_66 (by omega) rfl ⟨rfl, Or.inr ⟨none, rfl, rfl, hn⟩⟩, fun z => absurd (c_nof hn hp hm) z⟩
  | succ m ih =>
    intro t p hc hn hp hw hm
    refine c_at nb73_25 (by omega) rfl ⟨fun _ => c_at nb73_66 (by omega) rfl ⟨rfl, Or.inr ⟨none, rfl, rfl, hn⟩⟩, fun z => ?_⟩
    obtain ⟨g, rfl⟩ : ∃ n, p = some n := Option.ne_none_iff_exists'.mp z
    have tg := hp g rfl
    refine c_tv (d := d + 2) (a := 7) (vs := [kQ (some 7), kQ (some g), kQ w, kI sl, kI (n + 1)]) (r := []) nn54 (by simp) rfl nc54 (c_t hc.1 (7, 2) (by decide)) (by decide) hn (hT _ (some g) w _ hc hp hw) (fun v1 s1 e1 n1 m1 => ?_)
    rw [show v1 = none from e1]
    have c1 := c_TC_N hc n1
    have t1 := c_E_T n1.2.1 tg (by decide)
    have h56 : ∀ s2, c_TN 0 0 s1 s2 → CP X Z (d + 3) 73 56 [some (kQ (some 7)), some (kQ (some f)), some (kQ w), some (kI sl), some (kI n), some (kQ (some g))] [] s2 (c_TP s 0 0 c_vn) := by
      intro s2 n2
      have c2 := c_TC_N c1 n2
      have t2 := c_E_T n2.2.1 t1 (by decide)
      obtain ⟨x1, x2⟩ := c_next c2.1 t2
      exact c_at nb73_56 (by omega) rfl ⟨g, rfl, t2, ih s2 _ c2 (c_TN_c (c_TN_tr m1 n2) (by decide) (by decide)) x1 (c_rp_E n2.2.1 (c_rp_E n1.2.1 hw)) (fun b hb => by have := (x2 b hb).1; have := hm g rfl; omega)⟩
    refine ⟨g, rfl, t1, fun _ => h56 s1 (c_TN_rf c1.1), fun _ => ?_⟩
    refine c_tv (d := d + 2) (a := 7) (vs := [kQ (some 7), kI 10]) (r := []) nn64 (by simp) rfl nc64 (c_t c1.1 (7, 2) (by decide)) (by decide) m1 (cg64 (d := d + 1) (by omega) c1) (fun v2 s2 e2 n2 m2 => ?_)
    rw [show v2 = none from e2]
    exact h56 s2 (c_TN_c n2 (by decide) (by decide))
theorem cg73 (hd : 6 ≤ d) (hT : c_TR X Z (d + 2) (n + 1)) (h : c_TC s) (hf : cT s f = 3) (hw : c_rp s w) : CG X Z (d + 3) 73 [kQ (some 7), kQ (some f), kQ w, kI sl, kI n] s (c_TP s 0 0 c_vn) := by
  refine c_G_of (L := [some (kQ (some 7)), some (kQ (some f)), some (kQ w), some (kI sl), some (kI n), none]) (by rw [nl73]; exact Nat.le_of_ble_eq_true rfl) (by rw [nl73]; rfl) ?_
  refine c_at nb73_0 (by omega) rfl ⟨f, rfl, hf, h.1.1 _ _, ⟨by decide, by decide⟩, fun _ => ?_, fun _ => ⟨by simp, c_thr0 h⟩⟩
  refine c_at nb73_18 (by omega) rfl ?_
  refine c_iv (d := d + 2) (a := f) (vs := [kQ (some f), kI 1]) (r := []) nn45 (by simp) rfl nc45 hf (by decide) (cg45 (by omega) h.1 (c_TC_few h) hf ⟨by decide, by decide⟩) (fun r s' hr => ?_)
  obtain ⟨⟨o1, eo, fo1⟩, es⟩ := hr
  rw [eo, es]
  exact c_l73 hd hT (cn s) s o1 h (c_TN_rf h.1) fo1 hw (fun b _ => by omega)
theorem c_l76 (hd : 6 ≤ d) (hT : c_TR X Z (d + 2) (n + 1)) : ∀ (m : Nat) (t : cS) (p : Option Nat) (y : Int), c_TC t → c_TN 0 0 s t → c_fo t p → c_rp t w → (∀ b, p = some b → cn s ≤ b + m) → CP X Z (d + 3) 76 10 [some (kQ (some 7)), some (kI nm), some (kQ (some f)), some (kQ w), some (kI sl), some (kI n), some (kI y), some (kQ p)] [] t (c_TP s 0 0 c_vn) := by
  have h44 : ∀ (t : cS) (p : Option Nat) (y : Int), c_TC t → c_TN 0 0 s t → CP X Z (d + 3) 76 44 [some (kQ (some 7)), some (kI nm), some (kQ (some f)), some (kQ w), some (kI sl), some (kI n), some (kI y), some (kQ p)] [] t (c_TP s 0 0 c_vn) := by
    intro t p y hc hn
    refine c_at nb76_44 (by omega) rfl ?_
    refine c_tv (d := d + 2) (a := 7) (vs := [kQ (some 7), kI 12]) (r := []) nn64 (by simp) rfl nc64 (c_t hc.1 (7, 2) (by decide)) (by decide) hn (cg64 (d := d + 1) (by omega) hc) (fun v1 s1 e1 n1 m1 => ?_)
    rw [show v1 = none from e1]
    have c1 := c_TC_N hc n1
    refine ⟨7, rfl, c_t c1.1 (7, 2) (by decide), 8, c_r c1.1 (7, 1, 8) (by decide), c_t c1.1 (8, 1) (by decide), ?_⟩
    refine c_tv (d := d + 2) (a := 7) (vs := [kQ (some 7), kI (s1.1 8 1), kI nm]) (r := []) nn77 (by simp) rfl nc77 (c_t c1.1 (7, 2) (by decide)) (by decide) m1 (cg77 (by omega) c1) (fun v2 s2 e2 n2 m2 => ?_)
    rw [show v2 = none from e2]
    have c2 := c_TC_N c1 n2
    refine c_tv (d := d + 2) (a := 7) (vs := [kQ (some 7), kI 0]) (r := []) nn64 (by simp) rfl nc64 (c_t c2.1 (7, 2) (by decide)) (by decide) m2 (cg64 (d := d + 1) (by omega) c2) (fun v3 s3 e3 n3 m3 => ?_)
    rw [show v3 = none from e3]
    have c3 := c_TC_N c2 n3
    refine c_tv (d := d + 2) (a := 7) (vs := [kQ (some 7), kI 0]) (r := []) nn64 (by simp) rfl nc64 (c_t c3.1 (7, 2) (by decide)) (by decide) m3 (cg64 (d := d + 1) (by omega) c3) (fun v4 s4 e4 n4 m4 => ?_)
    rw [show v4 = none from e4]
    have c4 := c_TC_N c3 n4
    refine c_tv (d := d + 2) (a := 7) (vs := [kQ (some 7), kI y]) (r := []) nn64 (by simp) rfl nc64 (c_t c4.1 (7, 2) (by decide)) (by decide) m4 (cg64 (d := d + 1) (by omega) c4) (fun v5 s5 e5 n5 m5 => ?_)
    rw [show v5 = none from e5]
    exact ⟨rfl, Or.inr ⟨none, rfl, rfl, c_TN_c m5 (by decide) (by decide)⟩⟩
  intro m
  induction m with
  | zero =>
    intro t p y hc hn hp hw hm
    exact c_at nb76_10 (by omega) rfl ⟨fun _ => h44 t p y hc hn, fun z => absurd (c_nof hn hp hm) z⟩
  | succ m ih =>
    intro t p y hc hn hp hw hm
    refine c_at nb76_10 (by omega) rfl ⟨fun _ => h44 t p y hc hn, fun z => ?_⟩
    obtain ⟨g, rfl⟩ : ∃ n, p = some n := Option.ne_none_iff_exists'.mp z
    have tg := hp g rfl
    refine c_tv (d := d + 2) (a := 7) (vs := [kQ (some 7), kQ (some g), kQ w, kI (sl + y), kI (n + 1)]) (r := []) nn54 (by simp) rfl nc54 (c_t hc.1 (7, 2) (by decide)) (by decide) hn (hT _ (some g) w _ hc hp hw) (fun v1 s1 e1 n1 m1 => ?_)
    rw [show v1 = none from e1]
    have c1 := c_TC_N hc n1
    have t1 := c_E_T n1.2.1 tg (by decide)
    obtain ⟨x1, x2⟩ := c_next c1.1 t1
    exact ⟨g, rfl, t1, ih s1 _ (y + 1) c1 (c_TN_c m1 (by decide) (by decide)) x1 (c_rp_E n1.2.1 hw) (fun b hb => by have := (x2 b hb).1; have := hm g rfl; omega)⟩
theorem cg76 (hd : 6 ≤ d) (hT : c_TR X Z (d + 2) (n + 1)) (h : c_TC s) (hf : cT s f = 3) (hw : c_rp s w) : CG X Z (d + 3) 76 [kQ (some 7), kI nm, kQ (some f), kQ w, kI sl, kI n] s (c_TP s 0 0 c_vn) := by
  refine c_G_of (L := [some (kQ (some 7)), some (kI nm), some (kQ (some f)), some (kQ w), some (kI sl), some (kI n), none, none]) (by rw [nl76]; exact Nat.le_of_ble_eq_true rfl) (by rw [nl76]; rfl) ?_
  refine c_at nb76_0 (by omega) rfl ?_
  refine c_iv (d := d + 2) (a := f) (vs := [kQ (some f), kI 1]) (r := []) nn45 (by simp) rfl nc45 hf (by decide) (cg45 (by omega) h.1 (c_TC_few h) hf ⟨by decide, by decide⟩) (fun r s' hr => ?_)
  obtain ⟨⟨o1, eo, fo1⟩, es⟩ := hr
  rw [eo, es]
  exact c_l76 hd hT (cn s) s o1 0 h (c_TN_rf h.1) fo1 hw (fun b _ => by omega)
/-- what stands behind a call of a part -/
theorem c_54c {m : Nat} {g : Option Nat} {y : Int} {vs : List cV} (hd : 6 ≤ d) (ht : c_TN 0 0 s t) (hc : c_TC t) (hn : mm_na m = vs.length) (hl : vs.length ≤ 12) (hr : vs.head? = some (kQ (some 7))) (hci : mm_ci m = 2) (hG : CG X Z (d + 3) m vs t (c_TP t 0 0 c_vn)) {is : List Instr} (his : is = [.goto 320] ∨ is = [.goto_w 320]) : wc Z (fun t L st s' => CP X Z (d + 4) 54 t L st s' (c_TP s 0 0 c_vn)) (cC X Z (d + 4)) (c_TP s 0 0 c_vn) (.invokevirtual m :: is) [some (kQ (some 7)), some (kQ o), some (kQ w), some (kI sl), some (kI n), some (kQ (some f)), some (kQ g), some (kI y)] (vs.reverse ++ []) t := by
  refine c_tv (d := d + 3) (a := 7) hn (by simp; omega) hr hci (c_t hc.1 (7, 2) (by decide)) (by decide) ht hG (fun v1 s1 e1 n1 m1 => ?_)
  rw [show v1 = none from e1]
  have h320 : CP X Z (d + 4) 54 320 [some (kQ (some 7)), some (kQ o), some (kQ w), some (kI sl), some (kI n), some (kQ (some f)), some (kQ g), some (kI y)] [] s1 (c_TP s 0 0 c_vn) := c_at nb54_320 (by omega) rfl ⟨rfl, Or.inr ⟨none, rfl, rfl, c_TN_c m1 (by decide) (by decide)⟩⟩
  rcases his with rfl | rfl
  · exact h320
  · exact h320
theorem c_54h (hd : 6 ≤ d) (hT : c_TR X Z (d + 2) (n + 1)) {g : Option Nat} {x7 : Option cV} (hc : c_TC t) (ht : c_TN 0 0 s t) (tf : cT t f = 3) (hg : c_rp t g) : CP X Z (d + 4) 54 81 [some (kQ (some 7)), some (kQ o), some (kQ w), some (kI sl), some (kI n), some (kQ (some f)), some (kQ g), x7] [] t (c_TP s 0 0 c_vn) := by
  refine c_at nb54_81 (by omega) rfl ⟨f, rfl, tf, ?_⟩
  refine c_tv (d := d + 3) (a := 7) (vs := [kQ (some 7), kQ (t.2.1 f 3), kQ g]) (r := []) nn55 (by simp) rfl nc55 (c_t hc.1 (7, 2) (by decide)) (by decide) ht (cg55 (d := d + 1) (by omega) hc ((hc.1.2.2.1 f).2.2.1 tf).1 hg) (fun v1 s1 e1 n1 m1 => ?_)
  obtain ⟨ev, -, -⟩ := e1
  rw [ev]
  have c1 := c_TC_N hc n1
  have f1 := c_E_T n1.2.1 tf (by decide)
  have g1 := c_rp_E n1.2.1 hg
  refine c_tv (d := d + 3) (a := 7) (vs := [kQ (some 7)]) (r := []) nn66 (by simp) rfl nc66 (c_t c1.1 (7, 2) (by decide)) (by decide) m1 (cg66 (by omega) c1) (fun v2 s2 e2 n2 m2 => ?_)
  obtain ⟨y, ey, ry⟩ := e2
  rw [ey]
  have c2 := c_TC_N c1 n2
  have f2 := c_E_T n2.2.1 f1 (by decide)
  have g2 := c_rp_E n2.2.1 g1
  have q2 : c_TN 0 0 s s2 := c_TN_c m2 (by decide) (by decide)
  have r : ∀ k : Int, 0 ≤ k ∧ k < 100000000 → n_rng k := fun k hk => ⟨by omega, by omega⟩
  have h208 : CP X Z (d + 4) 54 208 [some (kQ (some 7)), some (kQ o), some (kQ w), some (kI sl), some (kI n), some (kQ (some f)), some (kQ g), some (kI y)] [] s2 (c_TP s 0 0 c_vn) := by
    refine c_at nb54_208 (by omega) rfl ?_
    refine c_is (d := d + 3) (vs := [kI y]) (r := [kI n, kI sl, kQ g, kQ (some f), kQ (some 7)]) nn67 (by simp) (cg67 (by omega) ry) (fun r s' hr => ?_)
    obtain ⟨⟨x, ex⟩, es⟩ := hr
    rw [ex, es]
    exact c_54c (vs := [kQ (some 7), kQ (some f), kQ g, kI sl, kI n, kI x]) hd q2 c2 nn68 (by simp) rfl nc68 (cg68 hd hT c2 f2 g2) (Or.inl rfl)
  have h227 : CP X Z (d + 4) 54 227 [some (kQ (some 7)), some (kQ o), some (kQ w), some (kI sl), some (kI n), some (kQ (some f)), some (kQ g), some (kI y)] [] s2 (c_TP s 0 0 c_vn) := c_at nb54_227 (by omega) rfl (c_54c (vs := [kQ (some 7), kQ (some f), kQ g, kI sl, kI n]) hd q2 c2 nn69 (by simp) rfl nc69 (cg69 hd hT c2 f2 g2) (Or.inl rfl))
  have h241 : CP X Z (d + 4) 54 241 [some (kQ (some 7)), some (kQ o), some (kQ w), some (kI sl), some (kI n), some (kQ (some f)), some (kQ g), some (kI y)] [] s2 (c_TP s 0 0 c_vn) := c_at nb54_241 (by omega) rfl (c_54c (vs := [kQ (some 7), kQ (some f), kQ g, kI sl, kI n]) hd q2 c2 nn72 (by simp) rfl nc72 (cg72 hd hT c2 f2 g2) (Or.inl rfl))
  have h255 : CP X Z (d + 4) 54 255 [some (kQ (some 7)), some (kQ o), some (kQ w), some (kI sl), some (kI n), some (kQ (some f)), some (kQ g), some (kI y)] [] s2 (c_TP s 0 0 c_vn) := c_at nb54_255 (by omega) rfl (c_54c (vs := [kQ (some 7), kQ (some f), kQ g, kI sl, kI n]) hd q2 c2 nn73 (by simp) rfl nc73 (cg73 hd hT c2 f2 g2) (Or.inl rfl))
  have h269 : CP X Z (d + 4) 54 269 [some (kQ (some 7)), some (kQ o), some (kQ w), some (kI sl), some (kI n), some (kQ (some f)), some (kQ g), some (kI y)] [] s2 (c_TP s 0 0 c_vn) := c_at nb54_269 (by omega) rfl (c_54c (vs := [kQ (some 7), kQ (some f), kQ g, kI sl, kI n]) hd q2 c2 nn74 (by simp) rfl nc74 (cg74 hd hT c2 f2 g2) (Or.inl rfl))
  have h283 : CP X Z (d + 4) 54 283 [some (kQ (some 7)), some (kQ o), some (kQ w), some (kI sl), some (kI n), some (kQ (some f)), some (kQ g), some (kI y)] [] s2 (c_TP s 0 0 c_vn) := c_at nb54_283 (by omega) rfl (c_54c (vs := [kQ (some 7), kQ (some f), kQ g, kI sl, kI n]) hd q2 c2 nn75 (by simp) rfl nc75 (cg75 hd hT c2 f2 g2) (Or.inl rfl))
  have h307 : CP X Z (d + 4) 54 307 [some (kQ (some 7)), some (kQ o), some (kQ w), some (kI sl), some (kI n), some (kQ (some f)), some (kQ g), some (kI y)] [] s2 (c_TP s 0 0 c_vn) := c_at nb54_307 (by omega) rfl (c_54c (vs := [kQ (some 7), kI y, kQ (some f), kQ g, kI sl, kI n]) hd q2 c2 nn76 (by simp) rfl nc76 (cg76 hd hT c2 f2 g2) (Or.inr rfl))
  have h297 : CP X Z (d + 4) 54 297 [some (kQ (some 7)), some (kQ o), some (kQ w), some (kI sl), some (kI n), some (kQ (some f)), some (kQ g), some (kI y)] [] s2 (c_TP s 0 0 c_vn) := c_at nb54_297 (by omega) rfl ⟨by simp, c_thr c2 q2⟩
  exact ⟨ry, r _ (by decide), fun _ => h208, fun _ => ⟨r _ (by decide), fun _ => h208, fun _ => ⟨r _ (by decide), fun _ => h208, fun _ => ⟨r _ (by decide), fun _ => h208, fun _ => ⟨r _ (by decide), fun _ => h208, fun _ => ⟨r _ (by decide), fun _ => h255, fun _ => ⟨r _ (by decide), fun _ => h227, fun _ => ⟨r _ (by decide), fun _ => h297, fun _ => ⟨r _ (by decide), fun _ => h241, fun _ => ⟨r _ (by decide), fun _ => h297, fun _ => ⟨r _ (by decide), fun _ => h283, fun _ => ⟨r _ (by decide), fun _ => h269, fun _ => h307⟩⟩⟩⟩⟩⟩⟩⟩⟩⟩⟩⟩
theorem c_54b (hd : 6 ≤ d) (hn : 0 ≤ n ∧ n ≤ 101) (hT : n ≤ 100 → c_TR X Z (d + 2) (n + 1)) : c_TR X Z (d + 4) n := by
  intro s o w sl h ho hw
  have t7 := c_t h.1 (7, 2) (by decide)
  refine c_G_of (L := [some (kQ (some 7)), some (kQ o), some (kQ w), some (kI sl), some (kI n), none, none, none]) (by rw [nl54]; exact Nat.le_of_ble_eq_true rfl) (by rw [nl54]; rfl) ?_
  refine c_at nb54_0 (by omega) rfl ⟨⟨by omega, by omega⟩, ⟨by decide, by decide⟩, fun z => ?_, fun _ => ⟨by simp, c_thr0 h⟩⟩
  have z : n ≤ 100 := z
  refine c_at nb54_17 (by omega) rfl ?_
  refine c_tv (d := d + 3) (a := 7) (vs := [kQ (some 7), kQ o, kQ w]) (r := []) nn55 (by simp) rfl nc55 t7 (by decide) (c_TN_rf h.1) (cg55 (d := d + 1) (by omega) h ho hw) (fun v1 s1 e1 n1 m1 => ?_)
  obtain ⟨ev, f, ef⟩ := e1
  rw [ev]
  have c1 := c_TC_N h n1
  have t71 := c_t c1.1 (7, 2) (by decide)
  have tf := c1.1.2.2.2.2.2.2.1 f ef
  have hg := c1.1.2.2.2.2.2.2.2
  refine ⟨7, rfl, t71, 7, rfl, t71, f, ef, tf, c1.1.1 _ _, fun _ => ?_, fun _ => ?_⟩
  · show CP X Z _ _ _ [some (kQ (some 7)), some (kQ o), some (kQ w), some (kI sl), some (kI n), some (kQ (s1.2.1 7 10)), some (kQ (s1.2.1 7 11)), none] [] s1 _
    rw [ef]
    generalize s1.2.1 7 11 = g at hg ⊢
    refine c_at nb54_53 (by omega) rfl ⟨f, rfl, tf, c1.1.1 _ _, ⟨by decide, by decide⟩, fun _ => c_54h hd (hT z) c1 n1 tf hg, fun _ => ?_⟩
    refine c_tv (d := d + 3) (a := 7) (vs := [kQ (some 7), kI 1]) (r := []) nn64 (by simp) rfl nc64 t71 (by decide) m1 (cg64 (d := d + 2) (by omega) c1) (fun v2 s2 e2 n2 m2 => ?_)
    rw [show v2 = none from e2]
    have c2 := c_TC_N c1 n2
    refine ⟨f, rfl, c_E_T n2.2.1 tf (by decide), ?_⟩
    refine c_tv (d := d + 3) (a := 7) (vs := [kQ (some 7), kI (s2.1 f 1)]) (r := [kQ (some 7)]) nn65 (by simp) rfl nc65 (c_t c2.1 (7, 2) (by decide)) (by decide) m2 (cg65 (by omega) c2 (c2.1.1 _ _)) (fun v3 s3 e3 n3 m3 => ?_)
    obtain ⟨y, ey, ry⟩ := e3
    rw [ey]
    have c3 := c_TC_N c2 n3
    refine c_tv (d := d + 3) (a := 7) (vs := [kQ (some 7), kI y]) (r := []) nn64 (by simp) rfl nc64 (c_t c3.1 (7, 2) (by decide)) (by decide) m3 (cg64 (d := d + 2) (by omega) c3) (fun v4 s4 e4 n4 m4 => ?_)
    rw [show v4 = none from e4]
    exact ⟨rfl, Or.inr ⟨none, rfl, rfl, c_TN_c m4 (by decide) (by decide)⟩⟩
  · show wc Z _ _ _ _ _ [] s1
    refine ⟨f, ef, tf, ?_⟩
    refine c_tv (d := d + 3) (a := 7) (vs := [kQ (some 7), kI (s1.1 f 1)]) (r := []) nn63 (by simp) rfl nc63 t71 (by decide) m1 (cg63 (d := d + 1) (by omega) c1) (fun v2 s2 e2 n2 m2 => ?_)
    rw [show v2 = none from e2]
    exact ⟨rfl, Or.inr ⟨none, rfl, rfl, c_TN_c m2 (by decide) (by decide)⟩⟩
/-- translate -/
theorem cg54 (hd : 6 ≤ d) : ∀ (m : Nat) (n : Int), 0 ≤ n → n + m = 101 → c_TR X Z (d + 4 + 2 * m) n := by
  intro m
  induction m with
  | zero =>
    intro n hn hm
    exact c_54b hd (by omega) (fun z => absurd z (by omega))
  | succ m ih =>
    intro n hn hm
    have e : d + 4 + 2 * (m + 1) = (d + 2 + 2 * m) + 4 := by omega
    rw [e]
    refine c_54b (by omega) (by omega) (fun _ => ?_)
    have := ih (n + 1) (by omega) (by omega)
    have e2 : d + 4 + 2 * m = (d + 2 + 2 * m) + 2 := by omega
    rw [e2] at this
    exact this
end E4
