/-! A UNIT IS KEPT -/
/-- len cells from base on are g's -/
def n_cp (A : Nat → Nat → Int) (a base len : Nat) (g : Nat → Int) : Nat → Nat → Int := fun b i => if b = a ∧ base ≤ i ∧ i < base + len then g (i - base) else A b i
theorem n_cp_0 {A : Nat → Nat → Int} {a base : Nat} {g : Nat → Int} : n_cp A a base 0 g = A := by
  funext b i
  unfold n_cp
  rw [if_neg (by omega)]
theorem n_cp_succ {A : Nat → Nat → Int} {a base k i : Nat} {g : Nat → Int} {x : Int} (hi : i = base + k) (hx : x = g k) : n_updA (n_cp A a base k g) a i x = n_cp A a base (k + 1) g := by
  subst hi hx
  funext b j
  unfold n_updA n_cp
  by_cases hb : b = a
  · by_cases hj : j = base + k
    · subst hj
      rw [if_pos ⟨hb, rfl⟩, if_pos ⟨hb, by omega, by omega⟩, show base + k - base = k from by omega]
    · rw [if_neg (by omega)]
      by_cases hr : base ≤ j ∧ j < base + k
      · rw [if_pos ⟨hb, hr⟩, if_pos ⟨hb, hr.1, by omega⟩]
      · rw [if_neg (fun h => hr h.2), if_neg (by omega)]
  · rw [if_neg (fun h => hb h.1), if_neg (fun h => hb h.1), if_neg (fun h => hb h.1)]
theorem n_cp_upd {A : Nat → Nat → Int} {a base k i b : Nat} {g : Nat → Int} {x : Int} (hb : b ≠ a) : n_updA (n_cp A a base k g) b i x = n_cp (n_updA A b i x) a base k g := by
  funext c j
  show (if c = b ∧ j = i then x else (if c = a ∧ base ≤ j ∧ j < base + k then g (j - base) else A c j)) = (if c = a ∧ base ≤ j ∧ j < base + k then g (j - base) else (if c = b ∧ j = i then x else A c j))
  by_cases hc : c = b ∧ j = i
  · have hr : ¬ (c = a ∧ base ≤ j ∧ j < base + k) := fun h => hb (hc.1.symm.trans h.1)
    rw [if_pos hc, if_neg hr, if_pos hc]
  · rw [if_neg hc, if_neg hc]
section N28
variable {Z : Nat → List Int32} {d : Nat} {S : Nat → Int} {A : Nat → Nat → Int} {w nm n fr u : Int} {Post : nA → nS → Prop}
def n_L7 (w nm n fr u : Int) (k : Option nV) : nL := [some (xR 25), some (xI w), some (xI nm), some (xI n), some (xI fr), some (xI u), k]
/-- the code -/
theorem n_l141a (hd : 6 ≤ d) (hu : 0 ≤ u ∧ u < 16) (sz : Int) (hs : 0 ≤ sz ∧ sz ≤ 200) (hsz : A 30 u.toNat = sz) (h112 : ∀ o, NP Z d 141 112 (n_L7 w nm n fr u o) [] (S, n_cp A 31 (200 * u).toNat sz.toNat (fun j => n_b (A 47 j))) Post) : ∀ (q k : Nat), (k : Int) + q = sz → NP Z d 141 73 (n_L7 w nm n fr u (some (xI k))) [] (S, n_cp A 31 (200 * u).toNat k (fun j => n_b (A 47 j))) Post := by
  intro q
  induction q with
  | zero =>
    intro k hk
    refine n_at nb141_73 hd rfl ⟨⟨hu.1, hu.2⟩, ⟨by omega, by omega⟩, ⟨by show _ ≤ A 30 u.toNat; omega, by show A 30 u.toNat < _; omega⟩, fun _ => ?_, fun z => ?_⟩
    · have := h112 (some (xI k))
      rw [show sz.toNat = k from by omega] at this
      exact this
    · have z : ¬ A 30 u.toNat ≤ k := z
      omega
  | succ q ih =>
    intro k hk
    refine n_at nb141_73 hd rfl ⟨⟨hu.1, hu.2⟩, ⟨by omega, by omega⟩, ⟨by show _ ≤ A 30 u.toNat; omega, by show A 30 u.toNat < _; omega⟩, fun z => ?_, fun z => ⟨⟨by omega, by omega⟩, ⟨by omega, by omega⟩, ?_⟩⟩
    · have z : A 30 u.toNat ≤ k := z
      omega
    · have e := n_cp_succ (A := A) (a := 31) (base := (200 * u).toNat) (k := k) (i := (200 * u + k).toNat) (g := fun j => n_b (A 47 j)) (x := n_b (A 47 k)) (by omega) rfl
      have := ih (k + 1) (by omega)
      rw [← e] at this
      exact this
/-- the fixes -/
theorem n_l141b (hd : 6 ≤ d) (hu : 0 ≤ u ∧ u < 16) (fx : Int) (hs : 0 ≤ fx ∧ fx ≤ 50) (hfx : A 32 u.toNat = fx) (h173 : ∀ o, NP Z d 141 173 (n_L7 w nm n fr u o) [] (S, n_cp (n_cp A 33 (50 * u).toNat fx.toNat (A 50)) 34 (50 * u).toNat fx.toNat (A 51)) Post) : ∀ (q k : Nat), (k : Int) + q = fx → NP Z d 141 115 (n_L7 w nm n fr u (some (xI k))) [] (S, n_cp (n_cp A 33 (50 * u).toNat k (A 50)) 34 (50 * u).toNat k (A 51)) Post := by
  intro q
  induction q with
  | zero =>
    intro k hk
    refine n_at nb141_115 hd rfl ⟨⟨hu.1, hu.2⟩, ⟨by omega, by omega⟩, ⟨by show _ ≤ A 32 u.toNat; omega, by show A 32 u.toNat < _; omega⟩, fun _ => ?_, fun z => ?_⟩
    · have := h173 (some (xI k))
      rw [show fx.toNat = k from by omega] at this
      exact this
    · have z : ¬ A 32 u.toNat ≤ k := z
      omega
  | succ q ih =>
    intro k hk
    refine n_at nb141_115 hd rfl ⟨⟨hu.1, hu.2⟩, ⟨by omega, by omega⟩, ⟨by show _ ≤ A 32 u.toNat; omega, by show A 32 u.toNat < _; omega⟩, fun z => ?_, fun z => ⟨⟨by omega, by omega⟩, ⟨by omega, by omega⟩, ⟨by omega, by omega⟩, ⟨by omega, by omega⟩, ?_⟩⟩
    · have z : A 32 u.toNat ≤ k := z
      omega
    · have e1 : n_updA (n_updA (n_cp (n_cp A 33 (50 * u).toNat k (A 50)) 34 (50 * u).toNat k (A 51)) 33 (50 * u + k).toNat (A 50 k)) 34 (50 * u + k).toNat (A 51 k) = n_cp (n_cp A 33 (50 * u).toNat (k + 1) (A 50)) 34 (50 * u).toNat (k + 1) (A 51) := by
        rw [n_cp_upd (by decide), n_cp_succ (by omega) rfl, n_cp_succ (by omega) rfl]
      have := ih (k + 1) (by omega)
      rw [← e1] at this
      exact this
/-- the parameters' names -/
theorem n_l141c (hd : 6 ≤ d) (hu : 0 ≤ u ∧ u < 16) (hw : n_rng w) (hn : 0 ≤ n ∧ n ≤ 4) (h212 : ∀ o, NP Z d 141 212 (n_L7 w nm n fr u o) [] (S, n_cp A 35 (4 * u).toNat (if w = 2 then n.toNat else 0) (A 48)) Post) : ∀ (q k : Nat), (k : Int) + q = n → (w = 2 ∨ k = 0) → NP Z d 141 176 (n_L7 w nm n fr u (some (xI k))) [] (S, n_cp A 35 (4 * u).toNat k (A 48)) Post := by
  intro q
  induction q with
  | zero =>
    intro k hk hwk
    have hn0 : (if w = 2 then n.toNat else 0) = k := by
      by_cases h2 : w = 2
      · rw [if_pos h2]; omega
      · rw [if_neg h2]; have := hwk.resolve_left h2; omega
    refine n_at nb141_176 hd rfl ⟨⟨by omega, by omega⟩, ⟨by omega, by omega⟩, fun _ => ?_, fun z => ?_⟩
    · have := h212 (some (xI k))
      rw [hn0] at this
      exact this
    · omega
  | succ q ih =>
    intro k hk hwk
    refine n_at nb141_176 hd rfl ⟨⟨by omega, by omega⟩, ⟨by omega, by omega⟩, fun z => ?_, fun z => ⟨hw, ⟨by decide, by decide⟩, fun z2 => ?_, fun z2 => ⟨⟨by omega, by omega⟩, ⟨by omega, by omega⟩, ?_⟩⟩⟩
    · omega
    · have hk0 := hwk.resolve_left z2
      have := h212 (some (xI k))
      rw [if_neg z2, ← hk0] at this
      exact this
    · have e := n_cp_succ (A := A) (a := 35) (base := (4 * u).toNat) (k := k) (i := (4 * u + k).toNat) (g := A 48) (x := A 48 k) (by omega) rfl
      have := ih (k + 1) (by omega) (Or.inl z2)
      rw [← e] at this
      exact this
/-- a macro's text -/
theorem n_l141d (hd : 6 ≤ d) (hu : 0 ≤ u ∧ u < 16) (hw : n_rng w) (hf : 0 ≤ fr ∧ fr ≤ S 1) (ht : S 1 ≤ 120) (h273 : ∀ o, NP Z d 141 273 (n_L7 w nm n fr u o) [] (S, n_cp A 36 (120 * u).toNat (if w = 2 then (S 1 - fr).toNat else 0) (fun j => n_c (A 26 (fr.toNat + j)))) Post) : ∀ (q k : Nat), fr + (k : Int) + q = S 1 → (w = 2 ∨ k = 0) → NP Z d 141 230 (n_L7 w nm n fr u (some (xI (fr + k)))) [] (S, n_cp A 36 (120 * u).toNat k (fun j => n_c (A 26 (fr.toNat + j)))) Post := by
  intro q
  induction q with
  | zero =>
    intro k hk hwk
    have hn0 : (if w = 2 then (S 1 - fr).toNat else 0) = k := by
      by_cases h2 : w = 2
      · rw [if_pos h2]; omega
      · rw [if_neg h2]; have := hwk.resolve_left h2; omega
    refine n_at nb141_230 hd rfl ⟨⟨by omega, by omega⟩, ⟨by show _ ≤ S 1; omega, by show S 1 < _; omega⟩, fun _ => ?_, fun z => ?_⟩
    · have := h273 (some (xI (fr + k)))
      rw [hn0] at this
      exact this
    · have z : ¬ S 1 ≤ fr + k := z
      omega
  | succ q ih =>
    intro k hk hwk
    refine n_at nb141_230 hd rfl ⟨⟨by omega, by omega⟩, ⟨by show _ ≤ S 1; omega, by show S 1 < _; omega⟩, fun z => ?_, fun z => ⟨hw, ⟨by decide, by decide⟩, fun z2 => ?_, fun z2 => ⟨⟨by omega, by omega⟩, ⟨by omega, by omega⟩, ?_⟩⟩⟩
    · have z : S 1 ≤ fr + k := z
      omega
    · have hk0 := hwk.resolve_left z2
      have := h273 (some (xI (fr + k)))
      rw [if_neg z2] at this
      have e0 : n_cp A 36 (120 * u).toNat k (fun j => n_c (A 26 (fr.toNat + j))) = n_cp A 36 (120 * u).toNat 0 (fun j => n_c (A 26 (fr.toNat + j))) := by rw [hk0]
      rw [← e0] at this
      exact this
    · have e := n_cp_succ (A := A) (a := 36) (base := (120 * u).toNat) (k := k) (i := (120 * u + (fr + k) - fr).toNat) (g := fun j => n_c (A 26 (fr.toNat + j))) (x := n_c (A 26 (fr + k).toNat)) (by omega) (by show n_c (A 26 (fr + k).toNat) = n_c (A 26 (fr.toNat + k)); rw [show (fr + (k : Int)).toNat = fr.toNat + k from by omega])
      have := ih (k + 1) (by omega) (Or.inl z2)
      rw [← e, show fr + ((k + 1 : Nat) : Int) = fr + k + 1 from by omega] at this
      exact this
end N28
