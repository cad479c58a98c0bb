/-! MACROS: what stands in a form's place -/
section E1
variable {X : Nat → mm_O} {Z : Nat → List Int32} {d : Nat} {s s0 s' S t : cS} {a b i u : Nat} {x v k j k0 j0 : Int} {o w : Option Nat}
theorem c_par (h : c_ok s) (hu : c_un s u) : (∃ p, s.2.1 u 2 = some p ∧ cT s p = 20) ∧ c_fo s (s.2.1 u 3) := by
  obtain ⟨h1, h2, -⟩ := (h.2.2.1 u).2.2.2.2.1 hu.1 hu.2
  exact ⟨h1, h2⟩
theorem c_rpl (h : c_ok s) (ha : c_rp s (some a)) : cT s a = 7 ∧ (∃ u, s.2.1 a 0 = some u ∧ c_un s u) ∧ c_fo s (s.2.1 a 1) ∧ c_rp s (s.2.1 a 2) ∧ (∀ b, s.2.1 a 2 = some b → b < a) := by
  obtain ⟨h1, h2⟩ := ha a rfl
  obtain ⟨q1, q2, q3, q4⟩ := (h.2.2.1 a).2.2.2.1 h1 h2
  obtain ⟨u, hu⟩ : ∃ n, s.2.1 a 0 = some n := Option.ne_none_iff_exists'.mp h2
  exact ⟨h1, ⟨u, hu, q1 u hu⟩, q2, q3, q4⟩
theorem cg57 (hd : 6 ≤ d) (h : c_ok s) (ha : c_rp s (some a)) (hv : n_rng v) : CG X Z d 57 [kQ (some a), kI v] s (fun r s' => (∃ o, r = .inl (some (kQ o)) ∧ c_fo s o) ∧ s' = s) := by
  obtain ⟨ta, ⟨u, eu, hu⟩, f1, -, -⟩ := c_rpl h ha
  obtain ⟨⟨p, ep, tp⟩, -⟩ := c_par h hu
  have hl := (h.2.2.1 p).2.1 tp
  have hl7 : ∀ (m : Nat) (o : Option Nat) (j : Int), c_fo s o → 0 ≤ j → j + m = cN s p → CP X Z d 57 7 [some (kQ (some a)), some (kI v), some (kQ o), some (kI j)] [] s (fun r s' => (∃ o, r = .inl (some (kQ o)) ∧ c_fo s o) ∧ s' = s) := by
    intro m
    induction m with
    | zero =>
      intro o j ho hj hm
      refine c_at nb57_7 hd rfl ⟨a, rfl, ta, u, eu, hu.1, p, ep, Or.inl tp, ⟨by omega, by omega⟩, ⟨by omega, by omega⟩, fun _ => c_at nb57_49 hd rfl ⟨⟨none, rfl, fun b hb => by cases hb⟩, rfl⟩, fun z => absurd (show (cN s p : Int) ≤ j by omega) z⟩
    | succ m ih =>
      intro o j ho hj hm
      have h49 : CP X Z d 57 49 [some (kQ (some a)), some (kI v), some (kQ o), some (kI j)] [] s (fun r s' => (∃ o, r = .inl (some (kQ o)) ∧ c_fo s o) ∧ s' = s) := c_at nb57_49 hd rfl ⟨⟨none, rfl, fun b hb => by cases hb⟩, rfl⟩
      refine c_at nb57_7 hd rfl ⟨a, rfl, ta, u, eu, hu.1, p, ep, Or.inl tp, ⟨by omega, by omega⟩, ⟨by omega, by omega⟩, fun _ => h49, fun z => ⟨fun _ => h49, fun z2 => ?_⟩⟩
      obtain ⟨f, rfl⟩ : ∃ n, o = some n := Option.ne_none_iff_exists'.mp z2
      have tf := ho f rfl
      refine ⟨a, rfl, ta, u, eu, hu.1, p, ep, tp, ⟨hj, by omega, by omega⟩, h.1 _ _, hv, fun _ => ?_, fun _ => ⟨⟨_, rfl, ho⟩, rfl⟩⟩
      exact c_at nb57_38 hd rfl ⟨f, rfl, tf, ih _ (j + 1) (c_next h tf).1 (by omega) (by omega)⟩
  refine c_G_of (L := [some (kQ (some a)), some (kI v), none, none]) (by rw [nl57]; exact Nat.le_of_ble_eq_true rfl) (by rw [nl57]; rfl) ?_
  exact c_at nb57_0 hd rfl ⟨a, rfl, ta, hl7 (cN s p) _ 0 f1 (by decide) (by omega)⟩
theorem cg58 (hd : 6 ≤ d) (h : c_ok s) : CG X Z (d + 1) 58 [kQ (some 7)] s (fun r s' => (∃ o, r = .inl (some (kQ o)) ∧ ∀ u, o = some u → c_un s u) ∧ s' = s) := by
  have t7 := c_t h (7, 2) (by decide)
  have h37 : ∀ o, (∀ u, o = some u → c_un s u) → CP X Z (d + 1) 58 37 [some (kQ (some 7))] [kQ o] s (fun r s' => (∃ o, r = .inl (some (kQ o)) ∧ ∀ u, o = some u → c_un s u) ∧ s' = s) := fun o ho => c_at nb58_37 (by omega) rfl ⟨⟨o, rfl, ho⟩, rfl⟩
  have h36 : CP X Z (d + 1) 58 36 [some (kQ (some 7))] [] s (fun r s' => (∃ o, r = .inl (some (kQ o)) ∧ ∀ u, o = some u → c_un s u) ∧ s' = s) := c_at nb58_36 (by omega) rfl (h37 none (fun u hu => by cases hu))
  refine c_G_of (L := [some (kQ (some 7))]) (by rw [nl58]; exact Nat.le_of_ble_eq_true rfl) (by rw [nl58]; rfl) ?_
  refine c_at nb58_0 (by omega) rfl ⟨7, rfl, t7, fun _ => h36, fun z => ?_⟩
  obtain ⟨f, ef⟩ : ∃ n, s.2.1 7 10 = some n := Option.ne_none_iff_exists'.mp z
  have tf := h.2.2.2.2.2.2.1 f ef
  refine ⟨7, rfl, t7, f, ef, tf, h.1 _ _, ⟨by decide, by decide⟩, fun _ => h36, fun _ => ⟨7, rfl, t7, 7, rfl, t7, f, ef, tf, ?_⟩⟩
  show wc Z _ _ _ _ _ [kI (s.1 f 1), kI 2, kQ (s.2.1 7 0)] s
  rw [show s.2.1 7 0 = some 5 from c_r h (7, 0, 5) (by decide)]
  refine c_iv (a := 5) (vs := [kQ (some 5), kI 2, kI (s.1 f 1)]) (r := []) nn59 (by simp) rfl nc59 (c_t h (5, 8) (by decide)) (by decide) (cg59 hd h ⟨by decide, by decide⟩ (h.1 _ _)) (fun r s' hr => ?_)
  obtain ⟨⟨o, ho, hou⟩, hs⟩ := hr
  rw [ho, hs]
  exact h37 o hou
/-- two places of the compiler -/
theorem c_T_see (h : c_ok s) (ho : c_fo s o) (hw : c_rp s w) : c_TN 0 0 s (c_uR (c_uR s 7 10 o) 7 11 w) := by
  have q1 := c_T_R7 h (l := 10) (Or.inl ⟨rfl, ho⟩)
  have q2 := c_T_R7 (o := w) q1.1 (l := 11) (Or.inr ⟨rfl, c_rp_E q1.2.1 hw⟩)
  exact c_TN_c (c_TN_tr q1 q2) (by decide) (by decide)
theorem c_l56 (hd : 6 ≤ d) : ∀ (m : Nat) (t : cS) (e : Option Nat) (x4 : Option cV), c_TC t → c_TN 0 0 s t → c_rp t e → (∀ b, e = some b → b < m) → CP X Z (d + 1) 56 12 [some (kQ (some 7)), some (kQ o), some (kQ w), some (kQ e), x4] [] t (c_TP s 0 0 c_vn) := by
  intro m
  induction m with
  | zero =>
    intro t e x4 hc hn he hm
    have e0 : e = none := by
      cases e with
      | none => rfl
      | some b => exact absurd (hm b rfl) (by omega)
    exact c_at nb56_12 (by omega) rfl ⟨fun _ => c_at nb56_79 (by omega) rfl ⟨rfl, Or.inr ⟨none, rfl, rfl, hn⟩⟩, fun z => absurd e0 z⟩
  | succ m ih =>
    intro t e x4 hc hn he hm
    have t7 := c_t hc.1 (7, 2) (by decide)
    refine c_at nb56_12 (by omega) rfl ⟨fun _ => c_at nb56_79 (by omega) rfl ⟨rfl, Or.inr ⟨none, rfl, rfl, hn⟩⟩, fun z => ?_⟩
    obtain ⟨g, rfl⟩ : ∃ n, e = some n := Option.ne_none_iff_exists'.mp z
    obtain ⟨tg, -, -, g3, g4⟩ := c_rpl hc.1 he
    have h49 : ∀ q, c_fo t q → CP X Z (d + 1) 56 49 [some (kQ (some 7)), some (kQ o), some (kQ w), some (kQ (some g)), x4] [kQ q] t (c_TP s 0 0 c_vn) := by
      intro q hq
      refine c_at nb56_49 (by omega) rfl ⟨fun _ => ?_, fun _ => ⟨rfl, Or.inr ⟨none, rfl, rfl, hn⟩⟩⟩
      have q1 := c_T_R7 (o := q) hc.1 (l := 10) (Or.inl ⟨rfl, hq⟩)
      have e2 : (c_uR t 7 10 q).2.1 g 2 = t.2.1 g 2 := by
        rw [c_R_at, if_neg (fun z => by rw [z.1] at tg; rw [tg] at t7; exact absurd t7 (by decide))]
      have q2 := c_T_R7 (o := t.2.1 g 2) q1.1 (l := 11) (Or.inr ⟨rfl, c_rp_E q1.2.1 g3⟩)
      have e3 : (c_uR (c_uR t 7 10 q) 7 11 (t.2.1 g 2)).2.1 g 2 = t.2.1 g 2 := by
        rw [c_R_at, if_neg (fun z => by rw [z.1] at tg; rw [tg] at t7; exact absurd t7 (by decide))]
        exact e2
      have q12 := c_TN_c (c_TN_tr q1 q2) (k := 0) (j := 0) (by decide) (by decide)
      refine c_at nb56_57 (by omega) rfl ⟨7, rfl, t7, g, rfl, tg, ?_⟩
      show wc Z _ _ _ _ _ [kQ ((c_uR t 7 10 q).2.1 g 2), kQ (some 7)] (c_uR t 7 10 q)
      rw [e2]
      refine ⟨7, rfl, t7, g, rfl, tg, ?_⟩
      show CP X Z _ _ _ [some (kQ (some 7)), some (kQ o), some (kQ w), some (kQ ((c_uR (c_uR t 7 10 q) 7 11 (t.2.1 g 2)).2.1 g 2)), some (kQ q)] [] _ _
      rw [e3]
      exact ih _ (t.2.1 g 2) (some (kQ q)) (c_TC_N hc q12) (c_TN_c (c_TN_tr hn q12) (by decide) (by decide)) (c_rp_E q12.2.1 g3) (fun b hb => by have := g4 b hb; have := hm g rfl; omega)
    have h34 : CP X Z (d + 1) 56 34 [some (kQ (some 7)), some (kQ o), some (kQ w), some (kQ (some g)), x4] [] t (c_TP s 0 0 c_vn) := c_at nb56_34 (by omega) rfl (h49 none (fun b hb => by cases hb))
    refine ⟨7, rfl, t7, fun _ => h34, fun z2 => ?_⟩
    obtain ⟨f, ef⟩ : ∃ n, t.2.1 7 10 = some n := Option.ne_none_iff_exists'.mp z2
    have tf := hc.1.2.2.2.2.2.2.1 f ef
    refine ⟨7, rfl, t7, f, ef, tf, hc.1.1 _ _, ⟨by decide, by decide⟩, fun _ => ?_, fun _ => h34⟩
    refine c_at nb56_38 (by omega) rfl ⟨7, rfl, t7, f, ef, tf, ?_⟩
    refine c_iv (a := g) (vs := [kQ (some g), kI (t.1 f 1)]) (r := []) nn57 (by simp) rfl nc57 tg (by decide) (cg57 hd hc.1 he (hc.1.1 _ _)) (fun r s' hr => ?_)
    obtain ⟨⟨q, hq, hqf⟩, hs⟩ := hr
    rw [hq, hs]
    exact h49 q hqf
theorem cg56 (hd : 6 ≤ d) (h : c_TC s) (ho : c_fo s o) (hw : c_rp s w) : CG X Z (d + 1) 56 [kQ (some 7), kQ o, kQ w] s (c_TP s 0 0 c_vn) := by
  have t7 := c_t h.1 (7, 2) (by decide)
  have q := c_T_see h.1 ho hw
  refine c_G_of (L := [some (kQ (some 7)), some (kQ o), some (kQ w), none, none]) (by rw [nl56]; exact Nat.le_of_ble_eq_true rfl) (by rw [nl56]; rfl) ?_
  refine c_at nb56_0 (by omega) rfl ⟨7, rfl, t7, 7, rfl, t7, ?_⟩
  exact c_l56 hd (cn s) _ w none (c_TC_N h q) q (c_rp_E q.2.1 hw) (fun b hb => by have := (cT_lt (hw b hb).1 (by decide)).1; unfold cn; omega)
/-- a place that is none is none -/
theorem c_uR_no (h : s.2.1 a i = none) : c_uR s a i none = s := by
  unfold c_uR
  have : c_updR s.2.1 a i none = s.2.1 := by
    funext b j
    unfold c_updR
    split
    · rename_i e
      rw [e.1, e.2, h]
    · rfl
  rw [this]
/-- a place of a new replacement -/
theorem c_7p (h : c_ok s) (ha : 25 ≤ a) (ht : cT s a = 7) (hn : s.2.1 a i = none) (hw : c_Wa (c_uR s a i o) a) : c_RP s (c_uR s a i o) 0 0 := by
  cases o with
  | none => rw [c_uR_no hn]; exact c_RP_rf h
  | some b => exact c_ok_Rd h ha hw (by simp)
theorem c_7w (h : c_ok s) (ht : cT s a = 7) (h0 : ∀ u, (c_uR s a i o).2.1 a 0 = some u → c_un s u) (h1 : c_fo s ((c_uR s a i o).2.1 a 1)) (h2 : c_rp s ((c_uR s a i o).2.1 a 2)) (h3 : ∀ b, (c_uR s a i o).2.1 a 2 = some b → b < a) (ho : i = 0 → o ≠ none) : c_Wa (c_uR s a i o) a := by
  have t : cT (c_uR s a i o) a = 7 := ht
  have nn : ∀ b l, b ≠ a → (c_uR s a i o).2.1 b l = s.2.1 b l := fun b l hb => c_updR_ne hb
  refine ⟨fun q => ?_, fun q => ?_, fun q => ?_, fun _ _ => ⟨fun u hu => ?_, h1, fun b hb => ?_, h3⟩, fun q => ?_, fun q => ?_, fun q => ?_⟩
  · rw [t] at q; exact absurd q (by decide)
  · rw [t] at q; exact absurd q (by decide)
  · rw [t] at q; exact absurd q (by decide)
  · obtain ⟨u1, u2⟩ := h0 u hu
    refine ⟨u1, ?_⟩
    rw [nn u 2 (fun e => by rw [e, ht] at u1; exact absurd u1 (by decide))]
    exact u2
  · obtain ⟨b1, b2⟩ := h2 b hb
    refine ⟨b1, ?_⟩
    rw [nn b 0 (fun e => by have := h3 b hb; omega)]
    exact b2
  · rw [t] at q; exact absurd q (by decide)
  · rw [t] at q; exact absurd q (by decide)
  · rw [t] at q; exact absurd q (by decide)
theorem cg62 (hd : 6 ≤ d) (h : c_ok s) (ha : 25 ≤ a) (ht : cT s a = 7) (hn : ∀ i, s.2.1 a i = none) (hu : c_un s u) (ho : c_fo s o) (hw : c_rp s w) (hlt : ∀ b, w = some b → b < a) : CG X Z d 62 [kQ (some a), kQ (some u), kQ o, kQ w] s (fun r s' => r = .inl none ∧ c_RP s s' 0 0 ∧ c_rp s' (some a) ∧ s'.1 = s.1 ∧ s'.2.2 = s.2.2) := by
  have q1 : c_RP s (c_uR s a 0 (some u)) 0 0 := c_7p h ha ht (hn 0) (c_7w h ht (fun u' hu' => by
    rw [c_R_at, if_pos ⟨rfl, rfl⟩] at hu'
    cases hu'
    exact hu) (by rw [c_R_at, if_neg (by rintro ⟨-, q⟩; cases q), hn]; intro b hb; cases hb) (by rw [c_R_at, if_neg (by rintro ⟨-, q⟩; cases q), hn]; intro b hb; cases hb) (by rw [c_R_at, if_neg (by rintro ⟨-, q⟩; cases q), hn]; intro b hb; cases hb) (fun _ => by simp))
  have d1 : ∀ l, (c_uR s a 0 (some u)).2.1 a l = if l = 0 then some u else none := fun l => by
    rw [c_R_at, hn]
    by_cases hl : l = 0
    · rw [if_pos ⟨rfl, hl⟩, if_pos hl]
    · rw [if_neg (fun q => hl q.2), if_neg hl]
  have main : ∀ S, c_RP s S 0 0 → (∀ l, S.2.1 a l = if l = 0 then some u else none) → S.1 = s.1 → S.2.2 = s.2.2 → c_RP s (c_uR (c_uR S a 1 o) a 2 w) 0 0 ∧ c_rp (c_uR (c_uR S a 1 o) a 2 w) (some a) := by
    intro S m eS e1 e2
    have tS : cT S a = 7 := c_E_T m.2.1 ht (by decide)
    have uS := c_un_E m.2.1 hu
    have q2 : c_RP S (c_uR S a 1 o) 0 0 := c_7p m.1 ha tS (by rw [eS, if_neg (by decide)]) (c_7w m.1 tS (fun u' hu' => by
      rw [c_R_at, if_neg (by rintro ⟨-, q⟩; cases q), eS, if_pos rfl] at hu'
      cases hu'
      exact uS) (by rw [c_R_at, if_pos ⟨rfl, rfl⟩]; exact c_fo_E m.2.1 ho) (by rw [c_R_at, if_neg (by rintro ⟨-, q⟩; cases q), eS, if_neg (by decide)]; intro b hb; cases hb) (by rw [c_R_at, if_neg (by rintro ⟨-, q⟩; cases q), eS, if_neg (by decide)]; intro b hb; cases hb) (fun e => by cases e))
    have d2 : ∀ l, (c_uR S a 1 o).2.1 a l = if l = 1 then o else if l = 0 then some u else none := fun l => by
      rw [c_R_at, eS]
      by_cases hl : l = 1
      · rw [if_pos ⟨rfl, hl⟩, if_pos hl]
      · rw [if_neg (fun q => hl q.2), if_neg hl]
    have m2 := c_RP_tr m q2
    generalize hT : c_uR S a 1 o = T at *
    have tT : cT T a = 7 := c_E_T m2.2.1 ht (by decide)
    have q3 : c_RP T (c_uR T a 2 w) 0 0 := c_7p m2.1 ha tT (by rw [d2, if_neg (by decide), if_neg (by decide)]) (c_7w m2.1 tT (fun u' hu' => by
      rw [c_R_at, if_neg (by rintro ⟨-, q⟩; cases q), d2, if_neg (by decide), if_pos rfl] at hu'
      cases hu'
      exact c_un_E m2.2.1 hu) (by rw [c_R_at, if_neg (by rintro ⟨-, q⟩; cases q), d2, if_pos rfl]; exact c_fo_E m2.2.1 ho) (by rw [c_R_at, if_pos ⟨rfl, rfl⟩]; exact c_rp_E m2.2.1 hw) (by rw [c_R_at, if_pos ⟨rfl, rfl⟩]; exact hlt) (fun e => by cases e))
    refine ⟨c_RP_tr m2 q3, fun b hb => ?_⟩
    cases hb
    refine ⟨tT, ?_⟩
    rw [c_R_at, if_neg (by rintro ⟨-, q⟩; cases q), d2, if_neg (by decide), if_pos rfl]
    simp
  obtain ⟨r1, r2⟩ := main _ q1 d1 rfl rfl
  refine c_G_of (L := [some (kQ (some a)), some (kQ (some u)), some (kQ o), some (kQ w)]) (by rw [nl62]; exact Nat.le_of_ble_eq_true rfl) (by rw [nl62]; rfl) ?_
  exact c_at nb62_0 hd rfl ⟨by simp, a, rfl, ht, a, rfl, ht, a, rfl, ht, rfl, rfl, r1, r2, rfl, rfl⟩
end E1
