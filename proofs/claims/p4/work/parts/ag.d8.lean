/-! UNITS OF FORMS -/
section D8
variable {X : Nat → mm_O} {Z : Nat → List Int32} {d : Nat} {s s' S : cS} {a b : Nat} {v k : Int}
/-- the last stretch of the unit's constructor -/
theorem c_51d (h : c_ok S) (ha : 25 ≤ a) (ht : cT S a = 9) (h2 : S.2.1 a 2 = none) (h3 : S.2.1 a 3 = none) {x y : Int} {p f c4 c5 p6 p7 : Nat} (tp : cT S p = 20) (tf : cT S f = 3) (e4 : S.2.1 a 4 = some c4) (k4 : cT S c4 = 1 ∧ S.2.1 c4 0 ≠ none ∧ 25 ≤ c4) (e5 : S.2.1 a 5 = some c5) (k5 : cT S c5 = 1 ∧ S.2.1 c5 0 ≠ none) (e6 : S.2.1 a 6 = some p6) (k6 : cT S p6 = 20) (e7 : S.2.1 a 7 = some p7) (k7 : cT S p7 = 20) : c_RP S (c_uR (c_uR (c_uA (c_uA S a 0 (c_w x)) a 1 (c_w y)) a 2 (some p)) a 3 (some f)) 0 0 ∧ c_un (c_uR (c_uR (c_uA (c_uA S a 0 (c_w x)) a 1 (c_w y)) a 2 (some p)) a 3 (some f)) a := by
  have q1 := c_RP_ud h ha ht (by decide) (j := 0) (x := x)
  have q2 := c_RP_ud q1.1 ha (t := 9) ht (by decide) (j := 1) (x := y)
  have q12 := c_RP_tr q1 q2
  generalize hT : c_uA (c_uA S a 0 (c_w x)) a 1 (c_w y) = T at *
  have e2 : T.2 = S.2 := by rw [← hT]; rfl
  obtain ⟨r1, r2⟩ := c_51c (S := T) (a := a) (p := p) (f := f) q12.1 ha (by rw [c_T2 e2]; exact ht) (by rw [e2]; exact h2) (by rw [e2]; exact h3) (by rw [c_T2 e2]; exact tp) (by rw [c_T2 e2]; exact tf) (by rw [e2]; exact e4) (by rw [c_T2 e2, e2]; exact k4) (by rw [e2]; exact e5) (by rw [c_T2 e2, e2]; exact k5) (by rw [e2]; exact e6) (by rw [c_T2 e2]; exact k6) (by rw [e2]; exact e7) (by rw [c_T2 e2]; exact k7)
  refine ⟨c_RP_tr q12 (c_RP_tr r1 r2), ?_, ?_⟩
  · show cT T a = 9
    rw [c_T2 e2]; exact ht
  · rw [c_R_at, if_neg (by rintro ⟨-, q⟩; cases q), c_R_at, if_pos ⟨rfl, rfl⟩]
    simp
/-- Unit's constructor -/
theorem cg51 (hd : 6 ≤ d) (h : c_ok s) (ha : 25 ≤ a) (ht : cT s a = 9) (hn : ∀ i, s.2.1 a i = none) {p f : Nat} (tp : cT s p = 20) (tf : cT s f = 3) (hq : 6 ≤ (cq s).1 ∧ 4 ≤ (cq s).2) : CG X Z (d + 1) 51 [kQ (some a), kI k, kI v, kQ (some p), kQ (some f)] s (fun r s' => r = .inl none ∧ c_RP s s' 6 4 ∧ c_un s' a) := by
  refine c_G_of (L := [some (kQ (some a)), some (kI k), some (kI v), some (kQ (some p)), some (kQ (some f))]) (by rw [nl51]; exact Nat.le_of_ble_eq_true rfl) (by rw [nl51]; rfl) ?_
  refine c_at nb51_0 (by omega) rfl ⟨by simp, ?_⟩
  refine c_51b (j := 4) hd rfl h ha ht (hn 2) (Or.inl rfl) ⟨by omega, by omega⟩ (fun S1 c4 m1 e4 k4 o1 => ?_)
  have b1 := m1.2.2.2
  refine c_51b (j := 5) hd rfl m1.1 ha (c_E_T m1.2.1 ht (by decide)) (by rw [o1 2 (by decide)]; exact hn 2) (Or.inr rfl) ⟨by unfold c_bd at b1; omega, by unfold c_bd at b1; omega⟩ (fun S2 c5 m2 e5 k5 o2 => ?_)
  have m12 := c_RP_tr m1 m2
  have b2 := m12.2.2.2
  refine c_51r (j := 6) rfl m2.1 ha (c_E_T m12.2.1 ht (by decide)) (by rw [o2 2 (by decide), o1 2 (by decide)]; exact hn 2) (Or.inl rfl) (by unfold c_bd at b2; omega) (fun S3 p6 m3 e6 k6 o3 => ?_)
  have m13 := c_RP_tr m12 m3
  have b3 := m13.2.2.2
  refine c_51r (j := 7) rfl m3.1 ha (c_E_T m13.2.1 ht (by decide)) (by rw [o3 2 (by decide), o2 2 (by decide), o1 2 (by decide)]; exact hn 2) (Or.inr rfl) (by unfold c_bd at b3; omega) (fun S4 p7 m4 e7 k7 o4 => ?_)
  have m14 := c_RP_tr m13 m4
  have m24 := c_RP_tr m2 (c_RP_tr m3 m4)
  have m34 := c_RP_tr m3 m4
  have ta := c_E_T m14.2.1 ht (by decide)
  obtain ⟨r1, r2⟩ := c_51d (S := S4) (a := a) (x := k) (y := v) (p := p) (f := f) (c4 := c4) (c5 := c5) (p6 := p6) (p7 := p7) m4.1 ha ta (by rw [o4 2 (by decide), o3 2 (by decide), o2 2 (by decide), o1 2 (by decide)]; exact hn 2) (by rw [o4 3 (by decide), o3 3 (by decide), o2 3 (by decide), o1 3 (by decide)]; exact hn 3) (c_E_T m14.2.1 tp (by decide)) (c_E_T m14.2.1 tf (by decide)) (by rw [o4 4 (by decide), o3 4 (by decide), o2 4 (by decide)]; exact e4) ⟨c_E_T m24.2.1 k4.1 (by decide), m24.2.1.2.2 _ _ (Or.inl k4.1) k4.2.1, k4.2.2⟩ (by rw [o4 5 (by decide), o3 5 (by decide)]; exact e5) ⟨c_E_T m34.2.1 k5.1 (by decide), m34.2.1.2.2 _ _ (Or.inl k5.1) k5.2.1⟩ (by rw [o4 6 (by decide)]; exact e6) (c_E_T m4.2.1 k6 (by decide)) e7 k7
  exact ⟨a, rfl, ta, a, rfl, ta, a, rfl, ta, a, rfl, ta, rfl, rfl, c_RP_le (c_RP_tr m14 r1) (by decide) (by decide), r2⟩
/-- a new unit cell -/
theorem c_newU (h : c_ok s) (hq : 1 ≤ (cq s).1 ∧ 8 ≤ (cq s).2) : c_RP s (c_new s 9 8) 1 8 ∧ cT (c_new s 9 8) (cn s) = 9 ∧ (∀ i, (c_new s 9 8).2.1 (cn s) i = none) ∧ 25 ≤ cn s := by
  have h59 : 59 ≤ cn s := h.2.1.2.2.2
  exact ⟨c_RP_new h (Or.inl (by decide)) (fun e => by cases e) hq, by rw [c_T_new, if_pos rfl], fun i => c_new_Rn, by omega⟩
def c_UO (s : cS) (r : cA) (s' : cS) : Prop := (r = .inr 1 ∧ s' = c_q s 1 6) ∨ (∃ u, r = .inl (some (kQ (some u))) ∧ c_un s' u ∧ c_RP s s' 8 16)
/-- definitionOf's end: the unit is made -/
theorem c_46n (hd : 6 ≤ d) (h : c_ok s) (hw : c_few s) {p f n : Nat} (tn : cT s n = 3) (tp : cT s p = 3) (tf : cT s f = 3) (hz : s.1 p 2 ≤ 4) (hq : 8 ≤ (cq s).1 ∧ 16 ≤ (cq s).2 ∧ cn s < 1000000) : CP X Z (d + 2) 46 97 [some (kQ (some 7)), some (kQ (some a)), some (kI k), some (kQ (some n)), some (kQ (some p)), some (kQ (some f))] [] s (c_UO s) := by
  obtain ⟨q1, t9, nn, h25⟩ := c_newU h ⟨by omega, by omega⟩
  have hb := q1.2.2.2
  have hcn : cn (c_new s 9 8) = cn s + 1 := rfl
  have ez : (c_new s 9 8).1 p 2 = s.1 p 2 := c_new_A (c_lt_n tp (by decide))
  refine c_at nb46_97 (by omega) rfl ⟨⟨by omega, by show 8 ≤ _; omega⟩, n, rfl, c_E_T q1.2.1 tn (by decide), ?_⟩
  have main : ∀ (T : cS) (x : Int), c_RP s T 1 8 → cT T (cn s) = 9 → (∀ i, T.2.1 (cn s) i = none) → T.1 p 2 ≤ 4 → c_few T → wc Z (fun t L st s' => CP X Z (d + 2) 46 t L st s' (c_UO s)) (cC X Z (d + 2)) (c_UO s) [.aload 4, .invokestatic 50, .aload 5, .invokevirtual 51, .areturn] [some (kQ (some 7)), some (kQ (some a)), some (kI k), some (kQ (some n)), some (kQ (some p)), some (kQ (some f))] [kI x, kI k, kQ (some (cn s)), kQ (some (cn s))] T := by
    intro T x mT tT nT zT wT
    have bT := mT.2.2.2
    unfold c_bd at bT
    have hG := cg50 (X := X) (Z := Z) (d := d + 1) (by omega) mT.1 wT (c_E_T mT.2.1 tp (by decide)) zT ⟨by omega, by omega⟩
    refine c_is (d := d + 1) (vs := [kQ (some p)]) (r := [kI x, kI k, kQ (some (cn s)), kQ (some (cn s))]) nn50 (by simp) hG (fun r s1 hr => ?_)
    obtain ⟨⟨w, e, tw⟩, m1, oR, -⟩ := hr
    rw [e]
    have m01 := c_RP_tr mT m1
    have b01 := m01.2.2.2
    unfold c_bd at b01
    refine c_iv (d := d + 1) (a := cn s) (vs := [kQ (some (cn s)), kI k, kI x, kQ (some w), kQ (some f)]) (r := [kQ (some (cn s))]) nn51 (by simp) rfl nc51 (c_E_T m1.2.1 tT (by decide)) (by decide) (cg51 hd m1.1 h25 (c_E_T m1.2.1 tT (by decide)) (fun i => by rw [oR _ _ (by rw [tT]; decide)]; exact nT i) tw (c_E_T m01.2.1 tf (by decide)) ⟨by omega, by omega⟩) (fun r s2 hr => ?_)
    obtain ⟨e2, m2, un⟩ := hr
    rw [e2]
    exact Or.inr ⟨cn s, rfl, un, c_RP_le (c_RP_tr m01 m2) (by decide) (by decide)⟩
  exact main (c_new s 9 8) _ q1 t9 nn (by rw [ez]; exact hz) (by unfold c_few; omega)
theorem cg46 (hd : 6 ≤ d) (h : c_ok s) (hw : c_few s) {f : Nat} (tf : cT s f = 3) (hq : 8 ≤ (cq s).1 ∧ 16 ≤ (cq s).2 ∧ cn s < 1000000) : CG X Z (d + 3) 46 [kQ (some 7), kQ (some f), kI k] s (c_UO s) := by
  have t7 := c_t h (7, 2) (by decide)
  refine c_G_of (L := [some (kQ (some 7)), some (kQ (some f)), some (kI k), none, none, none]) (by rw [nl46]; exact Nat.le_of_ble_eq_true rfl) (by rw [nl46]; rfl) ?_
  refine c_at nb46_0 (by omega) rfl ?_
  refine c_iv (d := d + 2) (a := f) (vs := [kQ (some f), kI 1]) (r := []) nn45 (by simp) rfl nc45 tf (by decide) (cg45 (by omega) h hw tf ⟨by decide, by decide⟩) (fun r s1 hr => ?_)
  obtain ⟨⟨o1, e1, f1⟩, es⟩ := hr
  rw [e1, es]
  refine c_iv (d := d + 2) (a := f) (vs := [kQ (some f), kI 2]) (r := []) nn45 (by simp) rfl nc45 tf (by decide) (cg45 (by omega) h hw tf ⟨by decide, by decide⟩) (fun r s1 hr => ?_)
  obtain ⟨⟨o2, e2, f2⟩, es⟩ := hr
  rw [e2, es]
  refine c_iv (d := d + 2) (a := f) (vs := [kQ (some f), kI 3]) (r := []) nn45 (by simp) rfl nc45 tf (by decide) (cg45 (by omega) h hw tf ⟨by decide, by decide⟩) (fun r s1 hr => ?_)
  obtain ⟨⟨o3, e3, f3⟩, es⟩ := hr
  rw [e3, es]
  have h42 : CP X Z (d + 3) 46 42 [some (kQ (some 7)), some (kQ (some f)), some (kI k), some (kQ o1), some (kQ o2), some (kQ o3)] [] s (c_UO s) := c_at nb46_42 (by omega) rfl ⟨by simp, by omega, by omega, Or.inl ⟨rfl, rfl⟩⟩
  have h69 : CP X Z (d + 3) 46 69 [some (kQ (some 7)), some (kQ (some f)), some (kI k), some (kQ o1), some (kQ o2), some (kQ o3)] [] s (c_UO s) := c_at nb46_69 (by omega) rfl ⟨by simp, by omega, by omega, Or.inl ⟨rfl, rfl⟩⟩
  refine ⟨f, rfl, tf, h.1 _ _, ⟨by decide, by decide⟩, fun _ => h42, fun _ => ⟨fun _ => h42, fun z1 => ⟨fun _ => h42, fun z2 => ⟨fun z3 => ?_, fun _ => h42⟩⟩⟩⟩
  obtain ⟨n1, rfl⟩ : ∃ n, o1 = some n := Option.ne_none_iff_exists'.mp z1
  obtain ⟨n2, rfl⟩ : ∃ n, o2 = some n := Option.ne_none_iff_exists'.mp z2
  obtain ⟨n3, rfl⟩ : ∃ n, o3 = some n := Option.ne_none_iff_exists'.mp z3
  have t1 := f1 n1 rfl
  have t2 := f2 n2 rfl
  have t3 := f3 n3 rfl
  have h79 : CP X Z (d + 3) 46 79 [some (kQ (some 7)), some (kQ (some f)), some (kI k), some (kQ (some n1)), some (kQ (some n2)), some (kQ (some n3))] [] s (c_UO s) := by
    refine c_at nb46_79 (by omega) rfl ?_
    refine c_is (d := d + 2) (vs := [kQ (some n2)]) (r := []) nn48 (by simp) (cg48 (by omega) h t2) (fun r s1 hr => ?_)
    obtain ⟨⟨x, e, hx⟩, es, hz⟩ := hr
    rw [e, es]
    refine ⟨by rcases hx with rfl | rfl <;> exact ⟨by decide, by decide⟩, fun z => ?_, fun _ => ⟨by simp, by omega, by omega, Or.inl ⟨rfl, rfl⟩⟩⟩
    have hx1 : x = 1 := by
      rcases hx with rfl | rfl
      · exact absurd rfl z
      · rfl
    refine c_46n (d := d + 1) (by omega) h hw t1 t2 t3 (hz (by rw [e, hx1])) hq
  refine c_at nb46_52 (by omega) rfl ?_
  refine c_iv (d := d + 2) (a := n1) (vs := [kQ (some n1)]) (r := []) nn34 (by simp) rfl nc34 t1 (by decide) (cg34 (by omega) t1 h.1) (fun r s1 hr => ?_)
  obtain ⟨⟨x, e, hx⟩, es⟩ := hr
  rw [e, es]
  refine ⟨by rcases hx with rfl | rfl <;> exact ⟨by decide, by decide⟩, fun _ => h69, fun _ => ⟨n1, rfl, t1, ?_⟩⟩
  refine c_is (d := d + 2) (vs := [kI (s.1 n1 1)]) (r := []) nn47 (by simp) (cg47 (by omega) (h.1 _ _)) (fun r s1 hr => ?_)
  obtain ⟨⟨x, e, hx⟩, es⟩ := hr
  rw [e, es]
  exact ⟨by rcases hx with rfl | rfl <;> exact ⟨by decide, by decide⟩, fun _ => h79, fun _ => h69⟩
theorem cg44 (hd : 6 ≤ d) (h : c_ok s) (hw : c_few s) {f : Nat} (tf : cT s f = 3) (hq : 8 ≤ (cq s).1 ∧ 16 ≤ (cq s).2 ∧ cn s < 1000000) : CG X Z (d + 4) 44 [kQ (some 7), kQ (some f)] s (c_UO s) := by
  have t7 := c_t h (7, 2) (by decide)
  refine c_G_of (L := [some (kQ (some 7)), some (kQ (some f)), none]) (by rw [nl44]; exact Nat.le_of_ble_eq_true rfl) (by rw [nl44]; rfl) ?_
  refine c_at nb44_0 (by omega) rfl ?_
  refine c_iv (d := d + 3) (a := f) (vs := [kQ (some f), kI 0]) (r := []) nn45 (by simp) rfl nc45 tf (by decide) (cg45 (by omega) h hw tf ⟨by decide, by decide⟩) (fun r s1 hr => ?_)
  obtain ⟨⟨o, e, fo⟩, es⟩ := hr
  rw [e, es]
  have h50 : CP X Z (d + 4) 44 50 [some (kQ (some 7)), some (kQ (some f)), some (kQ o)] [] s (c_UO s) := by
    obtain ⟨q1, t9, nn, h25⟩ := c_newU h ⟨by omega, by omega⟩
    have hb := q1.2.2.2
    unfold c_bd at hb
    have q2 := c_RP_new q1.1 (t := 20) (m := 0) (Or.inr rfl) (fun _ => by decide) ⟨by omega, by omega⟩
    have q12 := c_RP_tr q1 q2
    have hb2 := q12.2.2.2
    unfold c_bd at hb2
    have hcn : cn (c_new s 9 8) = cn s + 1 := rfl
    refine c_at nb44_50 (by omega) rfl ⟨⟨by omega, by show 8 ≤ _; omega⟩, ⟨by decide, by decide⟩, ⟨by show 1 ≤ (cq (c_new s 9 8)).1; omega, by show 0 ≤ _; omega⟩, ?_⟩
    refine c_iv (d := d + 3) (a := cn s) (vs := [kQ (some (cn s)), kI 0, kI 0, kQ (some (cn (c_new s 9 8))), kQ (some f)]) (r := [kQ (some (cn s))]) nn51 (by simp) rfl nc51 (c_E_T q2.2.1 t9 (by decide)) (by decide) (cg51 (d := d + 2) (by omega) q2.1 h25 (c_E_T q2.2.1 t9 (by decide)) (fun i => by
      show (c_new (c_new s 9 8) 20 0).2.1 (cn s) i = none
      rw [c_new_R (by rw [hcn]; omega)]
      exact nn i) (by
      show cT (c_new (c_new s 9 8) 20 0) (cn (c_new s 9 8)) = 20
      rw [c_T_new, if_pos rfl]) (c_E_T q12.2.1 tf (by decide)) ⟨by show 6 ≤ (cq (c_new (c_new s 9 8) 20 0)).1; omega, by show 4 ≤ (cq (c_new (c_new s 9 8) 20 0)).2; omega⟩) (fun r s2 hr => ?_)
    obtain ⟨e2, m2, un⟩ := hr
    rw [e2]
    exact Or.inr ⟨cn s, rfl, un, c_RP_le (c_RP_tr q12 m2) (by decide) (by decide)⟩
  refine ⟨fun _ => h50, fun z => ?_⟩
  obtain ⟨n, rfl⟩ : ∃ n, o = some n := Option.ne_none_iff_exists'.mp z
  have tn := fo n rfl
  refine ⟨n, rfl, tn, h.1 _ _, ⟨by decide, by decide⟩, fun _ => h50, fun _ => ⟨n, rfl, tn, h.1 _ _, ⟨by decide, by decide⟩, fun _ => ?_, fun _ => ?_⟩⟩
  · refine c_at nb44_34 (by omega) rfl ⟨n, rfl, tn, h.1 _ _, ⟨by decide, by decide⟩, fun _ => h50, fun _ => ?_⟩
    refine c_iv (d := d + 3) (a := 7) (vs := [kQ (some 7), kQ (some f), kI 2]) (r := []) nn46 (by simp) rfl nc46 t7 (by decide) (cg46 hd h hw tf hq) (fun r s2 hr => ?_)
    rcases hr with ⟨e, es⟩ | ⟨u, e, hu, m⟩
    · rw [e, es]; exact Or.inl ⟨rfl, rfl⟩
    · rw [e]; exact Or.inr ⟨u, rfl, hu, m⟩
  · refine c_iv (d := d + 3) (a := 7) (vs := [kQ (some 7), kQ (some f), kI 1]) (r := []) nn46 (by simp) rfl nc46 t7 (by decide) (cg46 hd h hw tf hq) (fun r s2 hr => ?_)
    rcases hr with ⟨e, es⟩ | ⟨u, e, hu, m⟩
    · rw [e, es]; exact Or.inl ⟨rfl, rfl⟩
    · rw [e]; exact Or.inr ⟨u, rfl, hu, m⟩
end D8
