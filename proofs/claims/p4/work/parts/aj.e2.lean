section E2
variable {X : Nat → mm_O} {Z : Nat → List Int32} {d : Nat} {s s0 s' S t : cS} {a b i u f : Nat} {x v k j k0 j0 : Int} {o w : Option Nat}
theorem c_T22 (h : s'.2.2 = s.2.2) {b : Nat} : cT s' b = cT s b := by unfold cT; rw [h]
/-- the cell of a replacement -/
theorem c_60n (h : c_TC s) (h9 : s.1 7 9 ≤ 11) : c_RP s (c_new (c_uA s 7 9 (c_w (s.1 7 9 + 1))) 7 3) 1 3 ∧ (∀ t, c_RP (c_new (c_uA s 7 9 (c_w (s.1 7 9 + 1))) 7 3) t 0 0 → t.1 = (c_new (c_uA s 7 9 (c_w (s.1 7 9 + 1))) 7 3).1 → t.2.2 = (c_new (c_uA s 7 9 (c_w (s.1 7 9 + 1))) 7 3).2.2 → c_TN 0 0 s t) ∧ (1 ≤ (cq s).1 ∧ 3 ≤ (cq s).2) := by
  obtain ⟨h1, ⟨h2, h3⟩, h4⟩ := h
  have h0 := h1.2.2.2.1.2.2.2.2.1
  have h59 : 59 ≤ cn s := h1.2.1.2.2.2
  have ew : c_w (s.1 7 9 + 1) = s.1 7 9 + 1 := c_w_id ⟨by omega, by omega⟩
  have hq : 1 ≤ (cq s).1 ∧ 3 ≤ (cq s).2 := by omega
  have q1 := c_RP_u7 (i := 9) (x := c_w (s.1 7 9 + 1)) h1 (c_w_rg _) (fun e => by cases e) (fun e => by cases e) (fun _ => by rw [ew]; omega)
  have q2 := c_RP_new q1.1 (t := 7) (m := 3) (Or.inl (by decide)) (fun e => by cases e) hq
  have hcn : cn (c_uA s 7 9 (c_w (s.1 7 9 + 1))) = cn s := rfl
  refine ⟨c_RP_tr q1 q2, fun t m e1 e2 => ?_, hq⟩
  have m' := c_RP_tr (c_RP_tr q1 q2) m
  have e7 : ∀ l, t.1 7 l = if l = 9 then c_w (s.1 7 9 + 1) else s.1 7 l := fun l => by
    rw [e1, c_new_A (by rw [hcn]; omega)]
    exact n_ua_eq
  have e8 : t.1 8 1 = s.1 8 1 := by
    rw [e1, c_new_A (by rw [hcn]; omega)]
    exact c_uA_ne (by decide)
  have en : cn t = cn s + 1 := by unfold cn; rw [e2]; rfl
  have eq : (cq t).1 = (cq s).1 - 1 := by unfold cq; rw [e2]; rfl
  refine c_T_mk m' (by rw [e7, if_pos rfl, ew]; omega) (by rw [e7, if_pos rfl, ew]; omega) (by rw [en, eq]; omega) (fun b hb => ?_) (by rw [e7, if_neg (by decide)]; omega) (by rw [e8, e7, if_neg (by decide)]; omega)
  rw [c_T22 e2, c_T_new] at hb
  split at hb
  · cases hb
  · exact hb
def c_vr (v : Option cV) (s' : cS) : Prop := ∃ b, v = some (kQ (some b)) ∧ c_rp s' (some b)
theorem c_60e (hd : 6 ≤ d) (hN : c_TN 0 0 s0 s) (h : c_TC s) (hu : c_un s u) (hf : cT s f = 3) (hw : c_rp s w) (h9 : s.1 7 9 ≤ 11) {q : Option Nat} (hq : c_fo (c_new (c_uA s 7 9 (c_w (s.1 7 9 + 1))) 7 3) q) : wc Z (fun t L st s' => CP X Z (d + 1) 60 t L st s' (c_TP s0 0 0 c_vr)) (cC X Z (d + 1)) (c_TP s0 0 0 c_vr) [.aload 3, .invokevirtual 62, .areturn] [some (kQ (some 7)), some (kQ (some u)), some (kQ (some f)), some (kQ w)] [kQ q, kQ (some u), kQ (some (cn s)), kQ (some (cn s))] (c_new (c_uA s 7 9 (c_w (s.1 7 9 + 1))) 7 3) := by
  obtain ⟨m, K, -⟩ := c_60n h h9
  have h59 : 59 ≤ cn s := h.1.2.1.2.2.2
  have ta : cT (c_new (c_uA s 7 9 (c_w (s.1 7 9 + 1))) 7 3) (cn s) = 7 := by rw [c_T_new]; exact if_pos rfl
  have na : ∀ i, (c_new (c_uA s 7 9 (c_w (s.1 7 9 + 1))) 7 3).2.1 (cn s) i = none := fun i => c_new_Rn
  generalize c_new (c_uA s 7 9 (c_w (s.1 7 9 + 1))) 7 3 = S at *
  refine c_iv (a := cn s) (vs := [kQ (some (cn s)), kQ (some u), kQ q, kQ w]) (r := [kQ (some (cn s))]) nn62 (by simp) rfl nc62 ta (by decide) (cg62 hd m.1 (by omega) ta na (c_un_E m.2.1 hu) hq (c_rp_E m.2.1 hw) (fun b hb => (cT_lt (hw b hb).1 (by decide)).1)) (fun r s' hr => ?_)
  obtain ⟨e, m2, rp, e1, e2⟩ := hr
  rw [e]
  exact Or.inr ⟨_, rfl, ⟨_, rfl, rp⟩, c_TN_c (c_TN_tr hN (K s' m2 e1 e2)) (by decide) (by decide)⟩
theorem cg60 (hd : 6 ≤ d) (h : c_TC s) (hu : c_un s u) (hf : cT s f = 3) (hw : c_rp s w) : CG X Z (d + 1) 60 [kQ (some 7), kQ (some u), kQ (some f), kQ w] s (c_TP s 0 0 c_vr) := by
  have t7 := c_t h.1 (7, 2) (by decide)
  obtain ⟨⟨p, ep, tp⟩, -⟩ := c_par h.1 hu
  have hl := (h.1.2.2.1 p).2.1 tp
  have h9 := h.1.2.2.2.1.2.2.2.2.1
  refine c_G_of (L := [some (kQ (some 7)), some (kQ (some u)), some (kQ (some f)), some (kQ w)]) (by rw [nl60]; exact Nat.le_of_ble_eq_true rfl) (by rw [nl60]; rfl) ?_
  refine c_at nb60_0 (by omega) rfl ⟨u, rfl, hu.1, p, ep, Or.inl tp, ?_⟩
  refine c_ts (vs := [kQ (some f), kI ((cN s p : Int) + 1)]) (r := []) nn61 (by simp) (c_TN_rf h.1) (cg61 hd h hf ⟨by omega, by omega⟩) (fun v1 s1 e1 n1 m1 => ?_)
  rw [show v1 = none from e1]
  have c1 := c_TC_N h n1
  have h91 := c1.1.2.2.2.1.2.2.2.2.1
  refine ⟨7, rfl, c_t c1.1 (7, 2) (by decide), c1.1.1 _ _, ⟨by decide, by decide⟩, fun z => ?_, fun _ => ⟨by simp, c_thr c1 m1⟩⟩
  have z : ¬ s1.1 7 9 = 12 := z
  have h11 : s1.1 7 9 ≤ 11 := by omega
  have hu1 := c_un_E n1.2.1 hu
  have hf1 := c_E_T n1.2.1 hf (by decide)
  have hw1 := c_rp_E n1.2.1 hw
  obtain ⟨m, K, hq⟩ := c_60n c1 h11
  have cc := c1.2.2
  have hfew : c_few (c_new (c_uA s1 7 9 (c_w (s1.1 7 9 + 1))) 7 3) := by
    unfold c_few
    show cn s1 + 1 ≤ _
    omega
  refine c_at nb60_31 (by omega) rfl ⟨7, rfl, c_t c1.1 (7, 2) (by decide), 7, rfl, c_t c1.1 (7, 2) (by decide), hq, ?_⟩
  refine c_iv (a := f) (vs := [kQ (some f), kI 1]) (r := [kQ (some u), kQ (some (cn s1)), kQ (some (cn s1))]) nn45 (by simp) rfl nc45 (c_E_T m.2.1 hf1 (by decide)) (by decide) (cg45 hd m.1 hfew (c_E_T m.2.1 hf1 (by decide)) ⟨by decide, by decide⟩) (fun r s' hr => ?_)
  obtain ⟨⟨q, e, hqq⟩, es⟩ := hr
  rw [e, es]
  exact c_60e hd n1 c1 hu1 hf1 hw1 h11 hqq
/-- settle: a form is seen, or it throws -/
def c_vs (v : Option cV) (s' : cS) : Prop := v = none ∧ ∃ f, s'.2.1 7 10 = some f
theorem c_l55 (hd : 6 ≤ d) : ∀ (m : Nat) (t : cS) (i : Int) (p q : Option Nat) (x6 : Option cV), c_TC t → c_TN 0 0 s t → c_fo t p → c_rp t q → (0 ≤ i ∧ i + m = 13) → CP X Z (d + 2) 55 8 [some (kQ (some 7)), some (kQ o), some (kQ w), some (kQ p), some (kQ q), some (kI i), x6] [] t (c_TP s 0 0 c_vs) := by
  intro m
  induction m with
  | zero =>
    intro t i p q x6 hc hn hp hq hi
    exact c_at nb55_8 (by omega) rfl ⟨⟨by omega, by omega⟩, ⟨by decide, by decide⟩, fun _ => c_at nb55_104 (by omega) rfl ⟨by simp, c_thr hc hn⟩, fun z => absurd (show (12 : Int) < i by omega) z⟩
  | succ m ih =>
    intro t i p q x6 hc hn hp hq hi
    have t7 := c_t hc.1 (7, 2) (by decide)
    refine c_at nb55_8 (by omega) rfl ⟨⟨by omega, by omega⟩, ⟨by decide, by decide⟩, fun z => absurd (show (12 : Int) < i from z) (by omega), fun _ => ?_⟩
    refine c_tv (d := d + 1) (a := 7) (vs := [kQ (some 7), kQ p, kQ q]) (r := []) nn56 (by simp) rfl nc56 t7 (by decide) hn (cg56 hd hc hp hq) (fun v1 s1 e1 n1 m1 => ?_)
    rw [show v1 = none from e1]
    have c1 := c_TC_N hc n1
    have t71 := c_t c1.1 (7, 2) (by decide)
    refine ⟨7, rfl, t71, 7, rfl, t71, fun z => ?_, fun _ => ⟨by simp, c_thr c1 m1⟩⟩
    obtain ⟨f, ef⟩ : ∃ n, s1.2.1 7 10 = some n := Option.ne_none_iff_exists'.mp z
    have tf := c1.1.2.2.2.2.2.2.1 f ef
    have hw1 := c1.1.2.2.2.2.2.2.2
    show CP X Z _ _ _ [some (kQ (some 7)), some (kQ o), some (kQ w), some (kQ (s1.2.1 7 10)), some (kQ (s1.2.1 7 11)), some (kI i), x6] [] s1 _
    rw [ef]
    generalize s1.2.1 7 11 = g at hw1 ⊢
    refine c_at nb55_48 (by omega) rfl ⟨f, rfl, tf, ?_⟩
    refine c_tv (d := d + 1) (a := 7) (vs := [kQ (some 7), kQ (s1.2.1 f 3), kQ g]) (r := []) nn56 (by simp) rfl nc56 t71 (by decide) m1 (cg56 hd c1 ((c1.1.2.2.1 f).2.2.1 tf).1 hw1) (fun v2 s2 e2 n2 m2 => ?_)
    rw [show v2 = none from e2]
    have c2 := c_TC_N c1 n2
    have t72 := c_t c2.1 (7, 2) (by decide)
    have tf2 := c_E_T n2.2.1 tf (by decide)
    have hg2 := c_rp_E n2.2.1 hw1
    refine c_iv (d := d + 1) (a := 7) (vs := [kQ (some 7)]) (r := []) nn58 (by simp) rfl nc58 t72 (by decide) (cg58 hd c2.1) (fun r s3 hr => ?_)
    obtain ⟨⟨e, he, hu⟩, es⟩ := hr
    rw [he, es]
    refine ⟨fun z2 => ?_, fun _ => ?_⟩
    · obtain ⟨y, rfl⟩ : ∃ n, e = some n := Option.ne_none_iff_exists'.mp z2
      have uy := hu y rfl
      refine c_at nb55_81 (by omega) rfl ?_
      refine c_tv (d := d + 1) (a := 7) (vs := [kQ (some 7), kQ (some y), kQ (some f), kQ g]) (r := []) nn60 (by simp) rfl nc60 t72 (by decide) m2 (cg60 hd c2 uy tf2 hg2) (fun v3 s3 e3 n3 m3 => ?_)
      obtain ⟨b, hb, rb⟩ := e3
      rw [hb]
      have c3 := c_TC_N c2 n3
      have uy3 := c_un_E n3.2.1 uy
      exact ⟨y, rfl, uy3.1, ih s3 (i + 1) (s3.2.1 y 3) (some b) _ c3 (c_TN_c m3 (by decide) (by decide)) (c_par c3.1 uy3).2 rb (by omega)⟩
    · have q := c_T_see c2.1 (o := some f) (fun b hb => by cases hb; exact tf2) hg2
      refine ⟨7, rfl, t72, 7, rfl, t72, rfl, Or.inr ⟨none, rfl, ⟨rfl, f, ?_⟩, c_TN_c (c_TN_tr m2 q) (by decide) (by decide)⟩⟩
      rw [c_R_at, if_neg (by rintro ⟨-, q⟩; cases q), c_R_at, if_pos ⟨rfl, rfl⟩]
theorem cg55 (hd : 6 ≤ d) (h : c_TC s) (ho : c_fo s o) (hw : c_rp s w) : CG X Z (d + 2) 55 [kQ (some 7), kQ o, kQ w] s (c_TP s 0 0 c_vs) := by
  refine c_G_of (L := [some (kQ (some 7)), some (kQ o), some (kQ w), none, none, none, none]) (by rw [nl55]; exact Nat.le_of_ble_eq_true rfl) (by rw [nl55]; rfl) ?_
  exact c_at nb55_0 (by omega) rfl (c_l55 hd 13 s 0 o w none h (c_TN_rf h.1) ho hw (by decide))
end E2
