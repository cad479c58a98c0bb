/-! THE PARTS OF A BODY -/
def c_TR (X : Nat → mm_O) (Z : Nat → List Int32) (d : Nat) (n : Int) : Prop := ∀ (s : cS) (o w : Option Nat) (sl : Int), c_TC s → c_fo s o → c_rp s w → CG X Z d 54 [kQ (some 7), kQ o, kQ w, kI sl, kI n] s (c_TP s 0 0 c_vn)
section E3
variable {X : Nat → mm_O} {Z : Nat → List Int32} {d : Nat} {s s0 s' S t : cS} {a b i u f : Nat} {x v k j k0 j0 sl n op : Int} {o w : Option Nat}
theorem c_T_78m (h : c_ok s) (hk : 1 ≤ s.1 7 8) : c_TN (-1) 0 s (c_uA s 7 8 (c_w (s.1 7 8 - 1))) := by
  have h8 := h.2.2.2.1.2.2.2.1
  have e : s.1 7 8 - 1 = s.1 7 8 + -1 := by omega
  rw [e]
  exact c_T_78 h (by omega)
theorem cg68 (hd : 6 ≤ d) (hT : c_TR X Z (d + 2) (n + 1)) (h : c_TC s) (hf : cT s f = 3) (hw : c_rp s w) : CG X Z (d + 3) 68 [kQ (some 7), kQ (some f), kQ w, kI sl, kI n, kI op] s (c_TP s 0 0 c_vn) := by
  refine c_G_of (L := [some (kQ (some 7)), some (kQ (some f)), some (kQ w), some (kI sl), some (kI n), some (kI op)]) (by rw [nl68]; exact Nat.le_of_ble_eq_true rfl) (by rw [nl68]; rfl) ?_
  refine c_at nb68_0 (by omega) rfl ?_
  refine c_ts (d := d + 2) (vs := [kQ (some f), kI 3]) (r := []) nn61 (by simp) (c_TN_rf h.1) (cg61 (by omega) h hf ⟨by decide, by decide⟩) (fun v1 s1 e1 n1 m1 => ?_)
  rw [show v1 = none from e1]
  have c1 := c_TC_N h n1
  have f1 := c_E_T n1.2.1 hf (by decide)
  have w1 := c_rp_E n1.2.1 hw
  refine c_iv (d := d + 2) (a := f) (vs := [kQ (some f), kI 1]) (r := [kQ (some 7)]) nn45 (by simp) rfl nc45 f1 (by decide) (cg45 (by omega) c1.1 (c_TC_few c1) f1 ⟨by decide, by decide⟩) (fun r s' hr => ?_)
  obtain ⟨⟨o1, eo1, fo1⟩, es⟩ := hr
  rw [eo1, es]
  refine c_tv (d := d + 2) (a := 7) (vs := [kQ (some 7), kQ o1, kQ w, kI sl, kI (n + 1)]) (r := []) nn54 (by simp) rfl nc54 (c_t c1.1 (7, 2) (by decide)) (by decide) m1 (hT _ o1 w _ c1 fo1 w1) (fun v2 s2 e2 n2 m2 => ?_)
  rw [show v2 = none from e2]
  have c2 := c_TC_N c1 n2
  have f2 := c_E_T n2.2.1 f1 (by decide)
  have w2 := c_rp_E n2.2.1 w1
  refine c_iv (d := d + 2) (a := f) (vs := [kQ (some f), kI 2]) (r := [kQ (some 7)]) nn45 (by simp) rfl nc45 f2 (by decide) (cg45 (by omega) c2.1 (c_TC_few c2) f2 ⟨by decide, by decide⟩) (fun r s' hr => ?_)
  obtain ⟨⟨o2, eo2, fo2⟩, es⟩ := hr
  rw [eo2, es]
  refine c_tv (d := d + 2) (a := 7) (vs := [kQ (some 7), kQ o2, kQ w, kI (sl + 1), kI (n + 1)]) (r := []) nn54 (by simp) rfl nc54 (c_t c2.1 (7, 2) (by decide)) (by decide) m2 (hT _ o2 w _ c2 fo2 w2) (fun v3 s3 e3 n3 m3 => ?_)
  rw [show v3 = none from e3]
  have c3 := c_TC_N c2 n3
  have f3 := c_E_T n3.2.1 f2 (by decide)
  have w3 := c_rp_E n3.2.1 w2
  refine c_tv (d := d + 2) (a := 7) (vs := [kQ (some 7), kI op]) (r := []) nn64 (by simp) rfl nc64 (c_t c3.1 (7, 2) (by decide)) (by decide) m3 (cg64 (d := d + 1) (by omega) c3) (fun v4 s4 e4 n4 m4 => ?_)
  rw [show v4 = none from e4]
  have c4 := c_TC_N c3 n4
  have f4 := c_E_T n4.2.1 f3 (by decide)
  have w4 := c_rp_E n4.2.1 w3
  exact ⟨rfl, Or.inr ⟨none, rfl, rfl, c_TN_c m4 (by decide) (by decide)⟩⟩
theorem cg69 (hd : 6 ≤ d) (hT : c_TR X Z (d + 2) (n + 1)) (h : c_TC s) (hf : cT s f = 3) (hw : c_rp s w) : CG X Z (d + 3) 69 [kQ (some 7), kQ (some f), kQ w, kI sl, kI n] s (c_TP s 0 0 c_vn) := by
  refine c_G_of (L := [some (kQ (some 7)), some (kQ (some f)), some (kQ w), some (kI sl), some (kI n), none, none]) (by rw [nl69]; exact Nat.le_of_ble_eq_true rfl) (by rw [nl69]; rfl) ?_
  refine c_at nb69_0 (by omega) rfl ?_
  refine c_ts (d := d + 2) (vs := [kQ (some f), kI 4]) (r := []) nn61 (by simp) (c_TN_rf h.1) (cg61 (by omega) h hf ⟨by decide, by decide⟩) (fun v1 s1 e1 n1 m1 => ?_)
  rw [show v1 = none from e1]
  have c1 := c_TC_N h n1
  have f1 := c_E_T n1.2.1 hf (by decide)
  have w1 := c_rp_E n1.2.1 hw
  refine c_iv (d := d + 2) (a := f) (vs := [kQ (some f), kI 1]) (r := [kQ (some 7)]) nn45 (by simp) rfl nc45 f1 (by decide) (cg45 (by omega) c1.1 (c_TC_few c1) f1 ⟨by decide, by decide⟩) (fun r s' hr => ?_)
  obtain ⟨⟨o1, eo1, fo1⟩, es⟩ := hr
  rw [eo1, es]
  refine c_tv (d := d + 2) (a := 7) (vs := [kQ (some 7), kQ o1, kQ w, kI sl, kI (n + 1)]) (r := []) nn54 (by simp) rfl nc54 (c_t c1.1 (7, 2) (by decide)) (by decide) m1 (hT _ o1 w _ c1 fo1 w1) (fun v2 s2 e2 n2 m2 => ?_)
  rw [show v2 = none from e2]
  have c2 := c_TC_N c1 n2
  have f2 := c_E_T n2.2.1 f1 (by decide)
  have w2 := c_rp_E n2.2.1 w1
  refine c_tv (d := d + 2) (a := 7) (vs := [kQ (some 7), kI 8]) (r := []) nn70 (by simp) rfl nc70 (c_t c2.1 (7, 2) (by decide)) (by decide) m2 (cg70 hd c2) (fun v3 s3 e3 n3 m3 => ?_)
  obtain ⟨x3, ex3, rx3⟩ := e3
  rw [ex3]
  have c3 := c_TC_N c2 n3
  have f3 := c_E_T n3.2.1 f2 (by decide)
  have w3 := c_rp_E n3.2.1 w2
  refine c_iv (d := d + 2) (a := f) (vs := [kQ (some f), kI 2]) (r := [kQ (some 7)]) nn45 (by simp) rfl nc45 f3 (by decide) (cg45 (by omega) c3.1 (c_TC_few c3) f3 ⟨by decide, by decide⟩) (fun r s' hr => ?_)
  obtain ⟨⟨o2, eo2, fo2⟩, es⟩ := hr
  rw [eo2, es]
  refine c_tv (d := d + 2) (a := 7) (vs := [kQ (some 7), kQ o2, kQ w, kI sl, kI (n + 1)]) (r := []) nn54 (by simp) rfl nc54 (c_t c3.1 (7, 2) (by decide)) (by decide) m3 (hT _ o2 w _ c3 fo2 w3) (fun v4 s4 e4 n4 m4 => ?_)
  rw [show v4 = none from e4]
  have c4 := c_TC_N c3 n4
  have f4 := c_E_T n4.2.1 f3 (by decide)
  have w4 := c_rp_E n4.2.1 w3
  refine c_tv (d := d + 2) (a := 7) (vs := [kQ (some 7), kI 7]) (r := []) nn70 (by simp) rfl nc70 (c_t c4.1 (7, 2) (by decide)) (by decide) m4 (cg70 hd c4) (fun v5 s5 e5 n5 m5 => ?_)
  obtain ⟨x5, ex5, rx5⟩ := e5
  rw [ex5]
  have c5 := c_TC_N c4 n5
  have f5 := c_E_T n5.2.1 f4 (by decide)
  have w5 := c_rp_E n5.2.1 w4
  refine ⟨7, rfl, (c_t c5.1 (7, 2) (by decide)), 7, rfl, (c_t c5.1 (7, 2) (by decide)), 8, c_r c5.1 (7, 1, 8) (by decide), c_t c5.1 (8, 1) (by decide), ?_⟩
  show wc Z _ _ _ _ _ [kI (s5.1 8 1), kI x3, kQ (s5.2.1 7 1)] s5
  rw [show s5.2.1 7 1 = some 8 from c_r c5.1 (7, 1, 8) (by decide)]
  refine c_iv (d := d + 2) (a := 8) (vs := [kQ (some 8), kI x3, kI (s5.1 8 1)]) (r := []) nn71 (by simp) rfl nc71 (c_t c5.1 (8, 1) (by decide)) (by decide) (cg71 (by omega) (c_ok_By c5.1 (p := (8, 0, 9)) (by decide) rfl (by decide)) c5.1.1 rx3) (fun r s6 hr => ?_)
  obtain ⟨er, bm, el⟩ := hr
  rw [er]
  have n6 := c_T_BM (j := 0) c5.1 bm (by omega)
  have m6 := c_TN_tr m5 n6
  have c6 := c_TC_N c5 n6
  have f6 := c_E_T n6.2.1 f5 (by decide)
  have w6 := c_rp_E n6.2.1 w5
  refine c_iv (d := d + 2) (a := f) (vs := [kQ (some f), kI 3]) (r := [kQ (some 7)]) nn45 (by simp) rfl nc45 f6 (by decide) (cg45 (by omega) c6.1 (c_TC_few c6) f6 ⟨by decide, by decide⟩) (fun r s' hr => ?_)
  obtain ⟨⟨o3, eo3, fo3⟩, es⟩ := hr
  rw [eo3, es]
  refine c_tv (d := d + 2) (a := 7) (vs := [kQ (some 7), kQ o3, kQ w, kI sl, kI (n + 1)]) (r := []) nn54 (by simp) rfl nc54 (c_t c6.1 (7, 2) (by decide)) (by decide) m6 (hT _ o3 w _ c6 fo3 w6) (fun v7 s7 e7 n7 m7 => ?_)
  rw [show v7 = none from e7]
  have c7 := c_TC_N c6 n7
  have f7 := c_E_T n7.2.1 f6 (by decide)
  have w7 := c_rp_E n7.2.1 w6
  refine ⟨7, rfl, (c_t c7.1 (7, 2) (by decide)), 7, rfl, (c_t c7.1 (7, 2) (by decide)), 8, c_r c7.1 (7, 1, 8) (by decide), c_t c7.1 (8, 1) (by decide), ?_⟩
  show wc Z _ _ _ _ _ [kI (s7.1 8 1), kI x5, kQ (s7.2.1 7 1)] s7
  rw [show s7.2.1 7 1 = some 8 from c_r c7.1 (7, 1, 8) (by decide)]
  refine c_iv (d := d + 2) (a := 8) (vs := [kQ (some 8), kI x5, kI (s7.1 8 1)]) (r := []) nn71 (by simp) rfl nc71 (c_t c7.1 (8, 1) (by decide)) (by decide) (cg71 (by omega) (c_ok_By c7.1 (p := (8, 0, 9)) (by decide) rfl (by decide)) c7.1.1 rx5) (fun r s8 hr => ?_)
  obtain ⟨er, bm, el⟩ := hr
  rw [er]
  have n8 := c_T_BM (j := 0) c7.1 bm (by omega)
  have m8 := c_TN_tr m7 n8
  have c8 := c_TC_N c7 n8
  have f8 := c_E_T n8.2.1 f7 (by decide)
  have w8 := c_rp_E n8.2.1 w7
  exact ⟨rfl, Or.inr ⟨none, rfl, rfl, c_TN_c m8 (by decide) (by decide)⟩⟩
theorem cg72 (hd : 6 ≤ d) (hT : c_TR X Z (d + 2) (n + 1)) (h : c_TC s) (hf : cT s f = 3) (hw : c_rp s w) : CG X Z (d + 3) 72 [kQ (some 7), kQ (some f), kQ w, kI sl, kI n] s (c_TP s 0 0 c_vn) := by
  refine c_G_of (L := [some (kQ (some 7)), some (kQ (some f)), some (kQ w), some (kI sl), some (kI n), none]) (by rw [nl72]; exact Nat.le_of_ble_eq_true rfl) (by rw [nl72]; rfl) ?_
  refine c_at nb72_0 (by omega) rfl ?_
  refine c_ts (d := d + 2) (vs := [kQ (some f), kI 4]) (r := []) nn61 (by simp) (c_TN_rf h.1) (cg61 (by omega) h hf ⟨by decide, by decide⟩) (fun v1 s1 e1 n1 m1 => ?_)
  rw [show v1 = none from e1]
  have c1 := c_TC_N h n1
  have f1 := c_E_T n1.2.1 hf (by decide)
  have w1 := c_rp_E n1.2.1 hw
  refine c_iv (d := d + 2) (a := f) (vs := [kQ (some f), kI 1]) (r := [kQ (some 7)]) nn45 (by simp) rfl nc45 f1 (by decide) (cg45 (by omega) c1.1 (c_TC_few c1) f1 ⟨by decide, by decide⟩) (fun r s' hr => ?_)
  obtain ⟨⟨o1, eo1, fo1⟩, es⟩ := hr
  rw [eo1, es]
  refine c_tv (d := d + 2) (a := 7) (vs := [kQ (some 7), kQ o1, kQ w]) (r := []) nn55 (by simp) rfl nc55 (c_t c1.1 (7, 2) (by decide)) (by decide) m1 (cg55 hd c1 fo1 w1) (fun v2 s2 e2 n2 m2 => ?_)
  obtain ⟨ev2, g2, eg2⟩ := e2
  rw [ev2]
  have c2 := c_TC_N c1 n2
  have f2 := c_E_T n2.2.1 f1 (by decide)
  have w2 := c_rp_E n2.2.1 w1
  refine c_tv (d := d + 2) (a := 7) (vs := [kQ (some 7)]) (r := []) nn66 (by simp) rfl nc66 (c_t c2.1 (7, 2) (by decide)) (by decide) m2 (cg66 (by omega) c2) (fun v3 s3 e3 n3 m3 => ?_)
  obtain ⟨x3, ex3, rx3⟩ := e3
  rw [ex3]
  have c3 := c_TC_N c2 n3
  have f3 := c_E_T n3.2.1 f2 (by decide)
  have w3 := c_rp_E n3.2.1 w2
  refine c_is (d := d + 2) (vs := [kI x3]) (r := []) nn35 (by simp) (cg35 (by omega)) (fun r s' hr => ?_)
  obtain ⟨⟨y, ey, hy⟩, es⟩ := hr
  rw [ey, es]
  refine ⟨⟨by omega, by omega⟩, fun _ => ?_, fun _ => ⟨by simp, c_thr c3 m3⟩⟩
  refine c_at nb72_39 (by omega) rfl ?_
  refine c_iv (d := d + 2) (a := f) (vs := [kQ (some f), kI 2]) (r := [kQ (some 7)]) nn45 (by simp) rfl nc45 f3 (by decide) (cg45 (by omega) c3.1 (c_TC_few c3) f3 ⟨by decide, by decide⟩) (fun r s' hr => ?_)
  obtain ⟨⟨o2, eo2, fo2⟩, es⟩ := hr
  rw [eo2, es]
  refine c_tv (d := d + 2) (a := 7) (vs := [kQ (some 7), kQ o2, kQ w, kI sl, kI (n + 1)]) (r := []) nn54 (by simp) rfl nc54 (c_t c3.1 (7, 2) (by decide)) (by decide) m3 (hT _ o2 w _ c3 fo2 w3) (fun v4 s4 e4 n4 m4 => ?_)
  rw [show v4 = none from e4]
  have c4 := c_TC_N c3 n4
  have f4 := c_E_T n4.2.1 f3 (by decide)
  have w4 := c_rp_E n4.2.1 w3
  refine c_tv (d := d + 2) (a := 7) (vs := [kQ (some 7), kI x3, kI sl]) (r := []) nn53 (by simp) rfl nc53 (c_t c4.1 (7, 2) (by decide)) (by decide) m4 (cg53 (by omega) c4) (fun v5 s5 e5 n5 m5 => ?_)
  rw [show v5 = none from e5]
  have c5 := c_TC_N c4 n5
  have f5 := c_E_T n5.2.1 f4 (by decide)
  have w5 := c_rp_E n5.2.1 w4
  refine c_iv (d := d + 2) (a := f) (vs := [kQ (some f), kI 3]) (r := [kQ (some 7)]) nn45 (by simp) rfl nc45 f5 (by decide) (cg45 (by omega) c5.1 (c_TC_few c5) f5 ⟨by decide, by decide⟩) (fun r s' hr => ?_)
  obtain ⟨⟨o3, eo3, fo3⟩, es⟩ := hr
  rw [eo3, es]
  refine c_tv (d := d + 2) (a := 7) (vs := [kQ (some 7), kQ o3, kQ w, kI (sl + 1), kI (n + 1)]) (r := []) nn54 (by simp) rfl nc54 (c_t c5.1 (7, 2) (by decide)) (by decide) m5 (hT _ o3 w _ c5 fo3 w5) (fun v6 s6 e6 n6 m6 => ?_)
  rw [show v6 = none from e6]
  have c6 := c_TC_N c5 n6
  have f6 := c_E_T n6.2.1 f5 (by decide)
  have w6 := c_rp_E n6.2.1 w5
  have k8 := m6.2.2.2.2.2.1
  have p8 := h.1.2.2.2.1.2.2.2.1.1
  have n7 := c_T_78m c6.1 (by omega)
  refine ⟨7, rfl, (c_t c6.1 (7, 2) (by decide)), 7, rfl, (c_t c6.1 (7, 2) (by decide)), ?_⟩
  generalize hS : c_uA s6 7 8 (c_w (s6.1 7 8 - 1)) = s7 at n7 ⊢
  have m7 := c_TN_tr m6 n7
  have c7 := c_TC_N c6 n7
  have f7 := c_E_T n7.2.1 f6 (by decide)
  have w7 := c_rp_E n7.2.1 w6
  refine c_tv (d := d + 2) (a := 7) (vs := [kQ (some 7), kI 9]) (r := []) nn64 (by simp) rfl nc64 (c_t c7.1 (7, 2) (by decide)) (by decide) m7 (cg64 (d := d + 1) (by omega) c7) (fun v8 s8 e8 n8 m8 => ?_)
  rw [show v8 = none from e8]
  have c8 := c_TC_N c7 n8
  have f8 := c_E_T n8.2.1 f7 (by decide)
  have w8 := c_rp_E n8.2.1 w7
  exact ⟨rfl, Or.inr ⟨none, rfl, rfl, c_TN_c m8 (by decide) (by decide)⟩⟩
theorem cg74 (hd : 6 ≤ d) (hT : c_TR X Z (d + 2) (n + 1)) (h : c_TC s) (hf : cT s f = 3) (hw : c_rp s w) : CG X Z (d + 3) 74 [kQ (some 7), kQ (some f), kQ w, kI sl, kI n] s (c_TP s 0 0 c_vn) := by
  refine c_G_of (L := [some (kQ (some 7)), some (kQ (some f)), some (kQ w), some (kI sl), some (kI n), none]) (by rw [nl74]; exact Nat.le_of_ble_eq_true rfl) (by rw [nl74]; rfl) ?_
  refine c_at nb74_0 (by omega) rfl ?_
  refine c_ts (d := d + 2) (vs := [kQ (some f), kI 3]) (r := []) nn61 (by simp) (c_TN_rf h.1) (cg61 (by omega) h hf ⟨by decide, by decide⟩) (fun v1 s1 e1 n1 m1 => ?_)
  rw [show v1 = none from e1]
  have c1 := c_TC_N h n1
  have f1 := c_E_T n1.2.1 hf (by decide)
  have w1 := c_rp_E n1.2.1 hw
  refine c_iv (d := d + 2) (a := f) (vs := [kQ (some f), kI 1]) (r := [kQ (some 7)]) nn45 (by simp) rfl nc45 f1 (by decide) (cg45 (by omega) c1.1 (c_TC_few c1) f1 ⟨by decide, by decide⟩) (fun r s' hr => ?_)
  obtain ⟨⟨o1, eo1, fo1⟩, es⟩ := hr
  rw [eo1, es]
  refine c_tv (d := d + 2) (a := 7) (vs := [kQ (some 7), kQ o1, kQ w]) (r := []) nn55 (by simp) rfl nc55 (c_t c1.1 (7, 2) (by decide)) (by decide) m1 (cg55 hd c1 fo1 w1) (fun v2 s2 e2 n2 m2 => ?_)
  obtain ⟨ev2, g2, eg2⟩ := e2
  rw [ev2]
  have c2 := c_TC_N c1 n2
  have f2 := c_E_T n2.2.1 f1 (by decide)
  have w2 := c_rp_E n2.2.1 w1
  refine c_tv (d := d + 2) (a := 7) (vs := [kQ (some 7)]) (r := [kQ (some 7)]) nn66 (by simp) rfl nc66 (c_t c2.1 (7, 2) (by decide)) (by decide) m2 (cg66 (by omega) c2) (fun v3 s3 e3 n3 m3 => ?_)
  obtain ⟨x3, ex3, rx3⟩ := e3
  rw [ex3]
  have c3 := c_TC_N c2 n3
  have f3 := c_E_T n3.2.1 f2 (by decide)
  have w3 := c_rp_E n3.2.1 w2
  refine c_tv (d := d + 2) (a := 7) (vs := [kQ (some 7), kI x3]) (r := []) nn65 (by simp) rfl nc65 (c_t c3.1 (7, 2) (by decide)) (by decide) m3 (cg65 (by omega) c3 rx3) (fun v4 s4 e4 n4 m4 => ?_)
  obtain ⟨x4, ex4, rx4⟩ := e4
  rw [ex4]
  have c4 := c_TC_N c3 n4
  have f4 := c_E_T n4.2.1 f3 (by decide)
  have w4 := c_rp_E n4.2.1 w3
  refine c_iv (d := d + 2) (a := f) (vs := [kQ (some f), kI 2]) (r := [kQ (some 7)]) nn45 (by simp) rfl nc45 f4 (by decide) (cg45 (by omega) c4.1 (c_TC_few c4) f4 ⟨by decide, by decide⟩) (fun r s' hr => ?_)
  obtain ⟨⟨o2, eo2, fo2⟩, es⟩ := hr
  rw [eo2, es]
  refine c_tv (d := d + 2) (a := 7) (vs := [kQ (some 7), kQ o2, kQ w, kI sl, kI (n + 1)]) (r := []) nn54 (by simp) rfl nc54 (c_t c4.1 (7, 2) (by decide)) (by decide) m4 (hT _ o2 w _ c4 fo2 w4) (fun v5 s5 e5 n5 m5 => ?_)
  rw [show v5 = none from e5]
  have c5 := c_TC_N c4 n5
  have f5 := c_E_T n5.2.1 f4 (by decide)
  have w5 := c_rp_E n5.2.1 w4
  refine c_tv (d := d + 2) (a := 7) (vs := [kQ (some 7), kI 11]) (r := []) nn64 (by simp) rfl nc64 (c_t c5.1 (7, 2) (by decide)) (by decide) m5 (cg64 (d := d + 1) (by omega) c5) (fun v6 s6 e6 n6 m6 => ?_)
  rw [show v6 = none from e6]
  have c6 := c_TC_N c5 n6
  have f6 := c_E_T n6.2.1 f5 (by decide)
  have w6 := c_rp_E n6.2.1 w5
  refine c_tv (d := d + 2) (a := 7) (vs := [kQ (some 7), kI x4]) (r := []) nn64 (by simp) rfl nc64 (c_t c6.1 (7, 2) (by decide)) (by decide) m6 (cg64 (d := d + 1) (by omega) c6) (fun v7 s7 e7 n7 m7 => ?_)
  rw [show v7 = none from e7]
  have c7 := c_TC_N c6 n7
  have f7 := c_E_T n7.2.1 f6 (by decide)
  have w7 := c_rp_E n7.2.1 w6
  exact ⟨rfl, Or.inr ⟨none, rfl, rfl, c_TN_c m7 (by decide) (by decide)⟩⟩
theorem cg75 (hd : 6 ≤ d) (hT : c_TR X Z (d + 2) (n + 1)) (h : c_TC s) (hf : cT s f = 3) (hw : c_rp s w) : CG X Z (d + 3) 75 [kQ (some 7), kQ (some f), kQ w, kI sl, kI n] s (c_TP s 0 0 c_vn) := by
  refine c_G_of (L := [some (kQ (some 7)), some (kQ (some f)), some (kQ w), some (kI sl), some (kI n), none, none, none]) (by rw [nl75]; exact Nat.le_of_ble_eq_true rfl) (by rw [nl75]; rfl) ?_
  refine c_at nb75_0 (by omega) rfl ?_
  refine c_ts (d := d + 2) (vs := [kQ (some f), kI 3]) (r := []) nn61 (by simp) (c_TN_rf h.1) (cg61 (by omega) h hf ⟨by decide, by decide⟩) (fun v1 s1 e1 n1 m1 => ?_)
  rw [show v1 = none from e1]
  have c1 := c_TC_N h n1
  have f1 := c_E_T n1.2.1 hf (by decide)
  have w1 := c_rp_E n1.2.1 hw
  refine ⟨7, rfl, (c_t c1.1 (7, 2) (by decide)), 8, c_r c1.1 (7, 1, 8) (by decide), c_t c1.1 (8, 1) (by decide), ?_⟩
  refine c_iv (d := d + 2) (a := f) (vs := [kQ (some f), kI 1]) (r := [kQ (some 7)]) nn45 (by simp) rfl nc45 f1 (by decide) (cg45 (by omega) c1.1 (c_TC_few c1) f1 ⟨by decide, by decide⟩) (fun r s' hr => ?_)
  obtain ⟨⟨o1, eo1, fo1⟩, es⟩ := hr
  rw [eo1, es]
  refine c_tv (d := d + 2) (a := 7) (vs := [kQ (some 7), kQ o1, kQ w, kI sl, kI (n + 1)]) (r := []) nn54 (by simp) rfl nc54 (c_t c1.1 (7, 2) (by decide)) (by decide) m1 (hT _ o1 w _ c1 fo1 w1) (fun v2 s2 e2 n2 m2 => ?_)
  rw [show v2 = none from e2]
  have c2 := c_TC_N c1 n2
  have f2 := c_E_T n2.2.1 f1 (by decide)
  have w2 := c_rp_E n2.2.1 w1
  refine c_tv (d := d + 2) (a := 7) (vs := [kQ (some 7), kI 8]) (r := []) nn70 (by simp) rfl nc70 (c_t c2.1 (7, 2) (by decide)) (by decide) m2 (cg70 hd c2) (fun v3 s3 e3 n3 m3 => ?_)
  obtain ⟨x3, ex3, rx3⟩ := e3
  rw [ex3]
  have c3 := c_TC_N c2 n3
  have f3 := c_E_T n3.2.1 f2 (by decide)
  have w3 := c_rp_E n3.2.1 w2
  refine c_iv (d := d + 2) (a := f) (vs := [kQ (some f), kI 2]) (r := [kQ (some 7)]) nn45 (by simp) rfl nc45 f3 (by decide) (cg45 (by omega) c3.1 (c_TC_few c3) f3 ⟨by decide, by decide⟩) (fun r s' hr => ?_)
  obtain ⟨⟨o2, eo2, fo2⟩, es⟩ := hr
  rw [eo2, es]
  refine c_tv (d := d + 2) (a := 7) (vs := [kQ (some 7), kQ o2, kQ w, kI sl, kI (n + 1)]) (r := []) nn54 (by simp) rfl nc54 (c_t c3.1 (7, 2) (by decide)) (by decide) m3 (hT _ o2 w _ c3 fo2 w3) (fun v4 s4 e4 n4 m4 => ?_)
  rw [show v4 = none from e4]
  have c4 := c_TC_N c3 n4
  have f4 := c_E_T n4.2.1 f3 (by decide)
  have w4 := c_rp_E n4.2.1 w3
  refine c_tv (d := d + 2) (a := 7) (vs := [kQ (some 7), kI 10]) (r := []) nn64 (by simp) rfl nc64 (c_t c4.1 (7, 2) (by decide)) (by decide) m4 (cg64 (d := d + 1) (by omega) c4) (fun v5 s5 e5 n5 m5 => ?_)
  rw [show v5 = none from e5]
  have c5 := c_TC_N c4 n5
  have f5 := c_E_T n5.2.1 f4 (by decide)
  have w5 := c_rp_E n5.2.1 w4
  refine c_tv (d := d + 2) (a := 7) (vs := [kQ (some 7), kI 7]) (r := []) nn70 (by simp) rfl nc70 (c_t c5.1 (7, 2) (by decide)) (by decide) m5 (cg70 hd c5) (fun v6 s6 e6 n6 m6 => ?_)
  obtain ⟨x6, ex6, rx6⟩ := e6
  rw [ex6]
  have c6 := c_TC_N c5 n6
  have f6 := c_E_T n6.2.1 f5 (by decide)
  have w6 := c_rp_E n6.2.1 w5
  refine ⟨7, rfl, (c_t c6.1 (7, 2) (by decide)), ?_⟩
  show wc Z _ _ _ _ _ [kI (s1.1 8 1), kI x6, kQ (s6.2.1 7 1)] s6
  rw [show s6.2.1 7 1 = some 8 from c_r c6.1 (7, 1, 8) (by decide)]
  refine c_iv (d := d + 2) (a := 8) (vs := [kQ (some 8), kI x6, kI (s1.1 8 1)]) (r := []) nn71 (by simp) rfl nc71 (c_t c6.1 (8, 1) (by decide)) (by decide) (cg71 (by omega) (c_ok_By c6.1 (p := (8, 0, 9)) (by decide) rfl (by decide)) c6.1.1 rx6) (fun r s7 hr => ?_)
  obtain ⟨er, bm, el⟩ := hr
  rw [er]
  have n7 := c_T_BM (j := 0) c6.1 bm (by omega)
  have m7 := c_TN_tr m6 n7
  have c7 := c_TC_N c6 n7
  have f7 := c_E_T n7.2.1 f6 (by decide)
  have w7 := c_rp_E n7.2.1 w6
  refine ⟨7, rfl, (c_t c7.1 (7, 2) (by decide)), 7, rfl, (c_t c7.1 (7, 2) (by decide)), 8, c_r c7.1 (7, 1, 8) (by decide), c_t c7.1 (8, 1) (by decide), ?_⟩
  show wc Z _ _ _ _ _ [kI (s7.1 8 1), kI x3, kQ (s7.2.1 7 1)] s7
  rw [show s7.2.1 7 1 = some 8 from c_r c7.1 (7, 1, 8) (by decide)]
  refine c_iv (d := d + 2) (a := 8) (vs := [kQ (some 8), kI x3, kI (s7.1 8 1)]) (r := []) nn71 (by simp) rfl nc71 (c_t c7.1 (8, 1) (by decide)) (by decide) (cg71 (by omega) (c_ok_By c7.1 (p := (8, 0, 9)) (by decide) rfl (by decide)) c7.1.1 rx3) (fun r s8 hr => ?_)
  obtain ⟨er, bm, el⟩ := hr
  rw [er]
  have n8 := c_T_BM (j := 0) c7.1 bm (by omega)
  have m8 := c_TN_tr m7 n8
  have c8 := c_TC_N c7 n8
  have f8 := c_E_T n8.2.1 f7 (by decide)
  have w8 := c_rp_E n8.2.1 w7
  refine c_tv (d := d + 2) (a := 7) (vs := [kQ (some 7), kI 0]) (r := []) nn63 (by simp) rfl nc63 (c_t c8.1 (7, 2) (by decide)) (by decide) m8 (cg63 hd c8) (fun v9 s9 e9 n9 m9 => ?_)
  rw [show v9 = none from e9]
  have c9 := c_TC_N c8 n9
  have f9 := c_E_T n9.2.1 f8 (by decide)
  have w9 := c_rp_E n9.2.1 w8
  exact ⟨rfl, Or.inr ⟨none, rfl, rfl, c_TN_c m9 (by decide) (by decide)⟩⟩
end E3
