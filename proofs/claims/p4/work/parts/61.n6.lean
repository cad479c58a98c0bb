/-! THE REFERENCE'S FORMS: lists as chains of cells -/
def n_isch (A : Nat → Nat → Int) : Int → List Int → Prop
  | c, [] => c = -1
  | c, x :: xs => c = x ∧ 0 ≤ x ∧ x < 1300 ∧ n_isch A (A 41 x.toNat) xs
section N6
variable {Z : Nat → List Int32} {d : Nat} {s : nS}
/-- count: the loop -/
theorem n_l121 {f : Int} (hd : 6 ≤ d) (N : Int) (hN : N < 100000) : ∀ (xs : List Int) (c n : Int), n_isch s.2 c xs → 0 ≤ n → n + xs.length = N → NP Z d 121 23 [some (xR 25), some (xI f), some (xI n), some (xI c)] [] s (fun r s' => r = some N ∧ s' = s)
  | [], c, n, hc, h0, hn => by
    have hc : c = -1 := hc
    subst hc
    refine n_at nb121_23 hd rfl ⟨⟨by decide, by decide⟩, fun _ => ?_, fun z => absurd (by decide : (-1 : Int) < 0) z⟩
    refine n_at nb121_40 hd rfl ⟨?_, rfl⟩
    simp at hn
    rw [hn]
  | x :: xs, c, n, hc, h0, hn => by
    obtain ⟨rfl, h1, h2, h3⟩ := hc
    have hn : n + (xs.length + 1 : Nat) = N := hn
    refine n_at nb121_23 hd rfl ⟨⟨by omega, by omega⟩, fun z => ?_, fun _ => ⟨⟨h1, by omega⟩, ?_⟩⟩
    · have z : c < 0 := z
      omega
    · exact n_l121 hd N hN xs _ (n + 1) h3 (by omega) (by omega)
/-- the first cell of what a form holds -/
def n_fst (s : nS) (f : Int) : Int := if s.2 38 f.toNat = 2 then s.2 39 f.toNat else -1
theorem ng121 {f : Int} {xs : List Int} (hd : 6 ≤ d) (hf : 0 ≤ f ∧ f < 1300) (hk : n_rng (s.2 38 f.toNat)) (hx : n_isch s.2 (n_fst s f) xs) (hl : xs.length < 100000) : NG Z d 121 [xR 25, xI f] s (fun r s' => r = some (xs.length : Int) ∧ s' = s) := by
  have h22 : ∀ c : Int, c = n_fst s f → NP Z d 121 22 [some (xR 25), some (xI f), some (xI 0), none] [xI c] s (fun r s' => r = some (xs.length : Int) ∧ s' = s) := fun c hc => by
    refine n_at nb121_22 hd rfl ?_
    rw [hc]
    exact n_l121 hd _ (by omega) xs _ 0 hx (by omega) (by omega)
  refine n_G_of (L := [some (xR 25), some (xI f), none, none]) (by rw [nl121]; exact Nat.le_of_ble_eq_true rfl) (by rw [nl121]; rfl) ?_
  refine n_at nb121_0 hd rfl ?_
  refine ⟨⟨hf.1, hf.2⟩, hk, ⟨by decide, by decide⟩, fun z => ?_, fun z => ⟨⟨hf.1, hf.2⟩, h22 _ ?_⟩⟩
  · refine n_at nb121_21 hd rfl (h22 _ ?_)
    have z : ¬ s.2 38 f.toNat = 2 := z
    unfold n_fst
    rw [if_neg z]
  · have z : s.2 38 f.toNat = 2 := z
    unfold n_fst
    rw [if_pos z]
/-- part: the loop -/
theorem n_l122 {f k : Int} (hd : 6 ≤ d) (hk : 0 ≤ k ∧ k < 100000) (y : Int) : ∀ (xs : List Int) (c j : Int), n_isch s.2 c xs → 0 ≤ j → j ≤ k → xs[(k - j).toNat]? = some y → NP Z d 122 10 [some (xR 25), some (xI f), some (xI k), some (xI c), some (xI j)] [] s (fun r s' => r = some (s.2 40 y.toNat) ∧ s' = s)
  | [], c, j, hc, h0, h1, hy => by simp at hy
  | x :: xs, c, j, hc, h0, h1, hy => by
    obtain ⟨rfl, g1, g2, g3⟩ := hc
    refine n_at nb122_10 hd rfl ⟨⟨by omega, by omega⟩, ⟨by omega, by omega⟩, fun z => ?_, fun z => ?_⟩
    · have z : k ≤ j := z
      have e : (k - j).toNat = 0 := by omega
      rw [e] at hy
      simp only [List.getElem?_cons_zero, Option.some.injEq] at hy
      subst hy
      exact n_at nb122_29 hd rfl ⟨⟨g1, g2⟩, rfl, rfl⟩
    · have z : ¬ k ≤ j := z
      refine ⟨⟨g1, g2⟩, ?_⟩
      have e : (k - j).toNat = (k - (j + 1)).toNat + 1 := by omega
      rw [e, List.getElem?_cons_succ] at hy
      exact n_l122 hd hk y xs _ (j + 1) g3 (by omega) (by omega) hy
theorem ng122 {f k y : Int} {xs : List Int} (hd : 6 ≤ d) (hf : 0 ≤ f ∧ f < 1300) (hk : 0 ≤ k ∧ k < 100000) (hx : n_isch s.2 (s.2 39 f.toNat) xs) (hy : xs[k.toNat]? = some y) : NG Z d 122 [xR 25, xI f, xI k] s (fun r s' => r = some (s.2 40 y.toNat) ∧ s' = s) := by
  refine n_G_of (L := [some (xR 25), some (xI f), some (xI k), none, none]) (by rw [nl122]; exact Nat.le_of_ble_eq_true rfl) (by rw [nl122]; rfl) ?_
  refine n_at nb122_0 hd rfl ⟨⟨hf.1, hf.2⟩, ?_⟩
  exact n_l122 hd hk y xs _ 0 hx (by omega) (by omega) (by rw [show k - 0 = k from by omega]; exact hy)
/-- a form joins the list that is open -/
theorem ng117 {f : Int} (hd : 6 ≤ d) (hc : 0 ≤ s.1 18 ∧ s.1 18 < 1300) (ho : 0 ≤ s.1 25 ∧ s.1 25 < 9) (hl : n_rng (s.2 43 (s.1 25).toNat) ∧ s.2 43 (s.1 25).toNat < 1300) (hv : 0 ≤ s.2 42 (s.1 25).toNat ∧ s.2 42 (s.1 25).toNat < 1300) : NG Z d 117 [xR 25, xI f] s (fun r s' => r = none ∧ s' = (n_upd s.1 18 (s.1 18 + 1), n_updA (if s.2 43 (s.1 25).toNat < 0 then n_updA (n_updA (n_updA s.2 40 (s.1 18).toNat f) 41 (s.1 18).toNat (-1)) 39 (s.2 42 (s.1 25).toNat).toNat (s.1 18) else n_updA (n_updA (n_updA s.2 40 (s.1 18).toNat f) 41 (s.1 18).toNat (-1)) 41 (s.2 43 (s.1 25).toNat).toNat (s.1 18)) 43 (s.1 25).toNat (s.1 18))) := by
  refine n_G_of (L := [some (xR 25), some (xI f)]) (by rw [nl117]; exact Nat.le_of_ble_eq_true rfl) (by rw [nl117]; rfl) ?_
  refine n_at nb117_0 hd rfl ⟨hc, hc, ho, hl.1, fun z => ?_, fun z => ?_⟩
  · have z : 0 ≤ s.2 43 (s.1 25).toNat := z
    rw [if_neg (by omega)]
    refine n_at nb117_53 hd rfl ⟨ho, ⟨z, hl.2⟩, ?_⟩
    exact n_at nb117_71 hd rfl ⟨ho, rfl, rfl, rfl⟩
  · have z : ¬ 0 ≤ s.2 43 (s.1 25).toNat := z
    rw [if_pos (by omega)]
    refine ⟨ho, hv, ?_⟩
    exact n_at nb117_71 hd rfl ⟨ho, rfl, rfl, rfl⟩
end N6
