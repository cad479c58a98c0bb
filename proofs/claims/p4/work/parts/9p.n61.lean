section N61
variable {Z : Nat → List Int32} {d : Nat} {s t : nS} {m0 : Int}
theorem n_skol {L : Nat} {C : Nat → (Nat → Int) → Nat → Prop} (h : ∀ k, k < L → ∃ D z, C k D z) : ∃ (Ds : Nat → Nat → Int) (zs : Nat → Nat), ∀ k, k < L → C k (Ds k) (zs k) := by
  have h1 : ∀ k, ∃ p : (Nat → Int) × Nat, k < L → C k p.1 p.2 := fun k => by
    by_cases hk : k < L
    · obtain ⟨D, z, hD⟩ := h k hk
      exact ⟨(D, z), fun _ => hD⟩
    · exact ⟨(fun _ => 0, 0), fun hq => absurd hq hk⟩
  exact ⟨fun k => (Classical.choose (h1 k)).1, fun k => (Classical.choose (h1 k)).2, fun k hk => Classical.choose_spec (h1 k) hk⟩
/-- behind the gathering -/
theorem n_c81 (hd : 6 ≤ d) (hM : n_MI s) {o : Int} (hQ : n_Q s t (t.1 43)) : NP Z (d + 2) 147 81 [some (xR 25), some (xI m0), some (xI o), none] [] t (n_LKP s) := by
  obtain ⟨hc, hO, h4, hq⟩ := hQ
  obtain ⟨n, hn⟩ : ∃ n : Nat, t.1 43 = n := ⟨(t.1 43).toNat, by have := hO.1; omega⟩
  have hn2 : n ≤ 16 := by have := hO.1; omega
  have hu := hM.2.1.1
  have e2 := hc.1 2 (by decide)
  have hUV := fun k (hk : k < n) => n_Q_u (k := k) hM hc hO (by omega)
  obtain ⟨Ds, zs, hDz⟩ := n_skol (C := fun k D z => n_UV t (t.2 52 k).toNat D z) (fun k hk => (hUV k hk).2)
  have hgb : ∀ k, k < n → (0 ≤ t.2 52 k ∧ t.2 52 k < 16) ∧ t.2 30 (t.2 52 k).toNat = t.2 30 (t.2 52 k).toNat ∧ (0 ≤ t.2 30 (t.2 52 k).toNat ∧ t.2 30 (t.2 52 k).toNat ≤ 200) := fun k hk => by
    obtain ⟨-, -, -, -, b5, b6, -⟩ := hDz k hk
    exact ⟨(hUV k hk).1, rfl, by omega, b6⟩
  have hsb := n_sum_b (g := fun k => t.2 30 (t.2 52 k).toNat) (n := n) (fun k hk => (hgb k hk).2.2) n (Nat.le_refl _)
  generalize hgd : (fun k => t.2 30 (t.2 52 k).toNat) = g at hsb
  have hge : ∀ k, g k = t.2 30 (t.2 52 k).toNat := fun k => by rw [← hgd]
  -- the state when all begins are known
  have hA53 : ∀ a i, a ≠ 53 → n_cp t.2 53 0 n (n_sum g) a i = t.2 a i := fun a i ha => n_cp_ne ha
  have hlkA : n_lk s (t.1, n_cp t.2 53 0 n (n_sum g)) := ⟨hc.1, fun a i ha => by
    show n_cp t.2 53 0 n (n_sum g) a i = _
    rw [hA53 a i (by omega)]
    exact hc.2 a i ha⟩
  have h52A : ∀ i, n_rng (n_cp t.2 53 0 n (n_sum g) 52 i) := fun i => by rw [hA53 52 i (by decide)]; exact hO.2.2.2 i
  have h143 : ∀ x : Int, (x = 4 ∨ (x = t.1 4 ∧ (t.1 4 = 0 → n_sum g n ≤ 600))) → NP Z (d + 2) 147 143 [some (xR 25), some (xI m0), some (xI (n_sum g n)), some (xI n)] [xI x, xR 25] (t.1, n_cp t.2 53 0 n (n_sum g)) (n_LKP s) := by
    intro x hx
    have hxb : 0 ≤ x ∧ x ≤ 4 := by omega
    have h159 : ∀ y : Int, ((y = 1) ∨ (y = 0 ∧ x = 0)) → NP Z (d + 2) 147 159 [some (xR 25), some (xI m0), some (xI (n_sum g n)), some (xI n)] [xI y, xR 25] (n_upd t.1 4 x, n_cp t.2 53 0 n (n_sum g)) (n_LKP s) := by
      intro y hy
      have hlk2 : n_lk s (n_upd (n_upd t.1 4 x) 0 y, n_cp t.2 53 0 n (n_sum g)) := n_lk_u (t := (n_upd t.1 4 x, n_cp t.2 53 0 n (n_sum g))) (n_lk_u (t := (t.1, n_cp t.2 53 0 n (n_sum g))) hlkA (by decide)) (by decide)
      refine n_at nb147_159 (by omega) rfl ⟨⟨by show _ ≤ y; omega, by show y < _; omega⟩, fun z => ?_, fun z => ?_⟩
      · have z : y ≤ 0 := z
        have hx0 : x = 0 := by omega
        have h40 : t.1 4 = 0 := by omega
        have h600 : n_sum g n ≤ 600 := by
          rcases hx with hx | hx
          · omega
          · exact hx.2 h40
        obtain ⟨⟨q1, q2, q3⟩, q4⟩ := hq h40
        have hIU : n_IU (n_upd (n_upd t.1 4 x) 0 y, n_cp t.2 53 0 n (n_sum g)) n g Ds zs := by
          have hf : ∀ a, a ≠ 53 → n_cp t.2 53 0 n (n_sum g) a = t.2 a := fun a ha => funext (fun i => hA53 a i ha)
          have hms := of_decide_eq_true (n_lat_p (fun i => decide (s.2 27 i = 0 ∧ s.2 28 i = 0)) (s.1 2).toNat q3)
          have hms : s.2 27 (n_latest s 0 0).toNat = 0 := hms.1
          have hmb := n_lat_b (fun i => decide (s.2 27 i = 0 ∧ s.2 28 i = 0)) (s.1 2).toNat
          have hmb : n_latest s 0 0 < ((s.1 2).toNat : Nat) := hmb.2
          refine ⟨⟨by omega, hn2⟩, hn, h600, fun k hk => ?_, ?_, ?_, ?_⟩
          · show (0 ≤ n_cp t.2 53 0 n (n_sum g) 52 k ∧ n_cp t.2 53 0 n (n_sum g) 52 k < 16) ∧ g k = n_cp t.2 53 0 n (n_sum g) 30 (n_cp t.2 53 0 n (n_sum g) 52 k).toNat ∧ n_cp t.2 53 0 n (n_sum g) 53 k = n_sum g k ∧ _
            rw [hf 52 (by decide), hf 30 (by decide), n_cp_eq, if_pos (by omega)]
            refine ⟨(hUV k hk).1, hge k, by rw [show k - 0 = k from rfl], ?_, fun j hj => ?_⟩
            · show n_UV _ (n_cp t.2 53 0 n (n_sum g) 52 k).toNat (Ds k) (zs k)
              rw [hf 52 (by decide)]
              exact n_UV_fr (hDz k hk) (fun a i ha => hA53 a i (by omega))
            · have hj : (j : Int) < n_cp t.2 53 0 n (n_sum g) 32 (n_cp t.2 53 0 n (n_sum g) 52 k).toNat := hj
              rw [hf 32 (by decide), hf 52 (by decide)] at hj
              have hm := q4 k (by omega) (by omega) j hj
              show n_met _ (n_cp t.2 53 0 n (n_sum g) 52 k) j
              rw [hf 52 (by decide)]
              unfold n_met n_latest n_stands at hm ⊢
              show 0 ≤ n_lat (fun i => decide (n_cp t.2 53 0 n (n_sum g) 27 i = 1 ∧ n_cp t.2 53 0 n (n_sum g) 28 i = n_cp t.2 53 0 n (n_sum g) 34 (50 * t.2 52 k + j).toNat)) (t.1 2).toNat ∧ n_cp t.2 53 0 n (n_sum g) 31 (200 * t.2 52 k + n_cp t.2 53 0 n (n_sum g) 33 (50 * t.2 52 k + j).toNat + 2).toNat % 256 = n_cp t.2 53 0 n (n_sum g) 29 (n_lat (fun i => decide (n_cp t.2 53 0 n (n_sum g) 27 i = 1 ∧ n_cp t.2 53 0 n (n_sum g) 28 i = n_cp t.2 53 0 n (n_sum g) 34 (50 * t.2 52 k + j).toNat)) (t.1 2).toNat).toNat ∧ 0 ≤ n_lat (fun i => decide (n_cp t.2 53 0 n (n_sum g) 52 i = n_lat (fun i => decide (n_cp t.2 53 0 n (n_sum g) 27 i = 1 ∧ n_cp t.2 53 0 n (n_sum g) 28 i = n_cp t.2 53 0 n (n_sum g) 34 (50 * t.2 52 k + j).toNat)) (t.1 2).toNat)) (t.1 43).toNat
              rw [hf 27 (by decide), hf 28 (by decide), hf 34 (by decide), hf 31 (by decide), hf 33 (by decide), hf 29 (by decide), hf 52 (by decide)]
              exact hm
          · show n_cp t.2 53 0 n (n_sum g) 27 (n_cp t.2 53 0 n (n_sum g) 52 0).toNat = 0
            rw [hf 27 (by decide), hf 52 (by decide), q2, hc.2 27 _ (by decide)]
            exact hms
          · show n_cp t.2 53 0 n (n_sum g) 29 (n_cp t.2 53 0 n (n_sum g) 52 0).toNat = 0
            rw [hf 29 (by decide), hf 52 (by decide), q2, hc.2 29 _ (by decide)]
            exact (hM.2.1.2.2 (n_latest s 0 0).toNat (by omega)).2.2.2 hms
          · show 0 ≤ t.1 2 ∧ t.1 2 ≤ 16
            rw [e2]
            exact hu
        refine n_at nb147_171 (by omega) rfl ?_
        exact n_l147c hd hM ⟨hlk2, h52A⟩ hIU (al := n_sum g n) (fun A o hA hI => n_c203 (d := d + 1) (by omega) hM ⟨hlk2, h52A⟩ hIU hA hI) n 0 _ (by omega) (fun _ _ => rfl) (fun k' hk' => by omega)
      · exact ⟨n_MI_lk hM hlk2 h52A, n_TP_lk hlk2⟩
    refine n_at nb147_143 (by omega) rfl ⟨⟨by show _ ≤ x; omega, by show x < _; omega⟩, fun z => ?_, fun z => h159 1 (Or.inl rfl)⟩
    have z : x ≤ 0 := z
    exact n_at nb147_158 (by omega) rfl (h159 0 (Or.inr ⟨rfl, by omega⟩))
  have h120 : NP Z (d + 2) 147 120 [some (xR 25), some (xI m0), some (xI (n_sum g n)), some (xI n)] [] (t.1, n_cp t.2 53 0 n (n_sum g)) (n_LKP s) := by
    have h139 : (t.1 4 = 0 → n_sum g n ≤ 600) → NP Z (d + 2) 147 139 [some (xR 25), some (xI m0), some (xI (n_sum g n)), some (xI n)] [xR 25] (t.1, n_cp t.2 53 0 n (n_sum g)) (n_LKP s) := fun h => n_at nb147_139 (by omega) rfl (h143 (t.1 4) (Or.inr ⟨rfl, h⟩))
    refine n_at nb147_120 (by omega) rfl ⟨⟨by show _ ≤ t.1 4; omega, by show t.1 4 < _; omega⟩, fun z => h139 (fun h => absurd h z), fun z => ⟨⟨by omega, by omega⟩, ⟨by decide, by decide⟩, fun z2 => h139 (fun _ => z2), fun z2 => h143 4 (Or.inl rfl)⟩⟩
  refine n_at nb147_81 (by omega) rfl ?_
  have := n_l147b (Z := Z) (d := d + 2) (m0 := m0) (t := t) (g := g) (by omega) hn hn2 (fun k hk => ⟨(hgb k hk).1, hge k, by rw [hge k]; exact (hgb k hk).2.2⟩) h120 n 0 (by omega)
  rw [n_cp_0] at this
  exact this
/-- link -/
theorem ng147 (hd : 6 ≤ d) (hM : n_MI s) : NG Z (d + 2) 147 [xR 25] s (n_LKP s) := by
  have hu := hM.2.1.1
  have hrg := hM.2.1.2.1
  have h52 := hM.2.2.1
  have hlb := n_lat_b (fun i => decide (s.2 27 i = 0 ∧ s.2 28 i = 0)) (s.1 2).toNat
  have hlp := n_lat_p (fun i => decide (s.2 27 i = 0 ∧ s.2 28 i = 0)) (s.1 2).toNat
  have hle : n_lat (fun i => decide (s.2 27 i = 0 ∧ s.2 28 i = 0)) (s.1 2).toNat = n_latest s 0 0 := rfl
  rw [hle] at hlb hlp
  refine n_G_of (L := [some (xR 25), none, none, none]) (by rw [nl147]; exact Nat.le_of_ble_eq_true rfl) (by rw [nl147]; rfl) ?_
  refine n_at nb147_0 (by omega) rfl ?_
  refine n_iv (d := d + 1) (vs := [xR 25, xI 0, xI 0]) (r := []) nn148 (by simp) rfl nc148 (ng148 (by omega) ⟨by decide, by decide⟩ ⟨by decide, by decide⟩ (fun i => (hrg i).1) hu) (fun r s' hr => ?_)
  rw [hr.1, hr.2]
  have h46 : ∀ (t : nS), n_Q s t 0 → NP Z (d + 2) 147 44 [some (xR 25), some (xI (n_latest s 0 0)), none, none] [] t (n_LKP s) := by
    intro t hQ
    refine n_at nb147_44 (by omega) rfl ?_
    exact n_l147a hd hM (fun t o hQ => n_c81 hd hM hQ) 17 0 t (by omega) hQ
  have hlk0 : ∀ x : Int, n_lk s (n_upd (n_upd s.1 4 x) 43 0, s.2) := fun x => n_lk_u (t := (n_upd s.1 4 x, s.2)) (n_lk_u (t := s) ⟨fun _ _ => rfl, fun _ _ _ => rfl⟩ (by decide)) (by decide)
  have hOI0 : ∀ x : Int, n_OI (n_upd (n_upd s.1 4 x) 43 0, s.2) := fun x => by
    have hst : ∀ v, n_stands (n_upd (n_upd s.1 4 x) 43 0, s.2) v = -1 := fun v => rfl
    refine ⟨⟨by show (0 : Int) ≤ 0; decide, by show (0 : Int) ≤ 16; decide⟩, ?_, fun i hi => ?_, h52⟩
    · show (0 : Int) = n_cnt (fun u => decide (0 ≤ n_stands (n_upd (n_upd s.1 4 x) 43 0, s.2) u)) 16
      have : (fun u : Nat => decide (0 ≤ n_stands (n_upd (n_upd s.1 4 x) 43 0, s.2) u)) = fun _ => false := funext (fun u => by rw [hst]; rfl)
      rw [this]
      decide
    · have hi : (i : Int) < 0 := hi
      omega
  have h17 : ∀ x : Int, ((x = 1 ∧ n_latest s 0 0 < 0) ∨ (x = 0 ∧ 0 ≤ n_latest s 0 0)) → NP Z (d + 2) 147 17 [some (xR 25), some (xI (n_latest s 0 0)), none, none] [xI x, xR 25] s (n_LKP s) := by
    intro x hx
    refine n_at nb147_17 (by omega) rfl ⟨⟨by show _ ≤ x; omega, by show x < _; omega⟩, fun z => ?_, fun z => ?_⟩
    · refine h46 _ ⟨hlk0 x, hOI0 x, ?_, fun h => absurd h z⟩
      show x = 0 ∨ x = 1 ∨ x = 2 ∨ x = 3
      omega
    · have z : x = 0 := z
      have h0 : 0 ≤ n_latest s 0 0 := by omega
      have hmb : n_latest s 0 0 < s.1 2 := by omega
      have hm0 : s.2 27 (n_latest s 0 0).toNat = 0 := (of_decide_eq_true (hlp h0)).1
      obtain ⟨o1, o2, o3⟩ := n_OI_ord (f := n_latest s 0 0) (hOI0 x) (by show s.1 2 ≤ 16; omega) ⟨h0, hmb⟩ (by show ¬ s.2 27 (n_latest s 0 0).toNat = 2; rw [hm0]; decide) (by show (-1 : Int) < 0; decide)
      refine ⟨⟨by decide, by decide⟩, ?_⟩
      refine h46 (n_ord (n_upd (n_upd s.1 4 x) 43 0, s.2) (n_latest s 0 0)) ⟨n_lk_OM (hlk0 x) o3, o2, ?_, fun _ => ⟨⟨?_, ?_, h0⟩, fun k' hk' => by omega⟩⟩
      · show x = 0 ∨ x = 1 ∨ x = 2 ∨ x = 3
        omega
      · show (1 : Int) ≤ 0 + 1
        decide
      · show n_updA s.2 52 0 (n_latest s 0 0) 52 0 = _
        rw [n_ua_eq, if_pos rfl]
  refine ⟨⟨by show _ ≤ n_latest s 0 0; omega, by show n_latest s 0 0 < _; omega⟩, fun z => ?_, fun z => h17 1 (Or.inl ⟨rfl, ?_⟩)⟩
  · have z : 0 ≤ n_latest s 0 0 := z
    exact n_at nb147_16 (by omega) rfl (h17 0 (Or.inr ⟨rfl, z⟩))
  · have z : ¬ 0 ≤ n_latest s 0 0 := z
    omega
end N61
