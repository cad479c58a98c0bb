/-! THE REFERENCE'S CONTRACTS -/
def NP (Z : Nat → List Int32) (d mi pc : Nat) (L : nL) (st : List nV) (s : nS) (Post : nA → nS → Prop) : Prop := ∀ (F T : List mm_O) (q : Nat × Nat), F.length = 25 → mm_P Z d mi pc (ngL L) (ngS st) (n_H F T q s) (fun r h => ∃ r' s', r = ngA r' ∧ h = n_H F T q s' ∧ Post r' s')
def NG (Z : Nat → List Int32) (d mi : Nat) (vs : List nV) (s : nS) (Post : nA → nS → Prop) : Prop := ∀ (F T : List mm_O) (q : Nat × Nat), F.length = 25 → mm_G Z d mi (vs.map ng) (n_H F T q s) (fun r h => ∃ r' s', r = ngA r' ∧ h = n_H F T q s' ∧ Post r' s')
def nC (Z : Nat → List Int32) (d m : Nat) (vs : List nV) (s : nS) (K : nA → nS → Prop) : Prop := match d with
  | 0 => False
  | d + 1 => NG Z d m vs s K
section N4
variable {Z : Nat → List Int32} {d d' mi pc : Nat} {is : List Instr} {L : nL} {st : List nV} {s : nS} {vs : List nV} {Post Post' : nA → nS → Prop}
theorem n_at (hb : mm_blk mi pc = some is) (hd : 6 ≤ d) (hh : mm_hd mi = []) (hw : wq (fun t L st s => NP Z d mi t L st s Post) (nC Z d) Post is L st s) : NP Z d mi pc L st s Post := by
  intro F T q hF
  refine mm_at_blk hb hd (Or.inl hh) (wq_sound hF ?_ ?_ ?_ is L st s hw)
  · intro t L st s h
    exact h F T q hF
  · intro m vs s K K' hK hc
    cases d with
    | zero => cases hc
    | succ d =>
      refine mm_G_mono (hc F T q hF) (fun r h hr => ?_)
      obtain ⟨r', s', rfl, rfl, hk⟩ := hr
      exact hK _ _ hk
  · intro r s h
    exact ⟨r, s, rfl, rfl, h⟩
theorem n_G_of (hl : (mm_argsL (vs.map ng)).length ≤ mm_ml mi) (hL : mm_ent (mm_ml mi) (vs.map ng) = ngL L) (k : NP Z d mi 0 L [] s Post) : NG Z d mi vs s Post := by
  intro F T q hF
  refine mm_G_of hl ?_
  rw [hL]
  exact k F T q hF
theorem NG_le (h : d ≤ d') (hG : NG Z d mi vs s Post) : NG Z d' mi vs s Post := fun F T q hF => mm_G_le h (hG F T q hF)
theorem NG_mono (hG : NG Z d mi vs s Post) (h : ∀ r s, Post r s → Post' r s) : NG Z d mi vs s Post' := fun F T q hF => mm_G_mono (hG F T q hF) (fun r hh hr => by
  obtain ⟨r', s', e1, e2, hk⟩ := hr
  exact ⟨r', s', e1, e2, h _ _ hk⟩)
variable {J : Nat → nL → List nV → nS → Prop} {Q : nA → nS → Prop} {P : nA → nS → Prop} {r : List nV} {m : Nat}
/-- a call over the arguments vs -/
theorem n_iv (hn : mm_na m = vs.length) (hl : vs.length + r.length ≤ 12) (hr : vs.head? = some (xR 25)) (hci : mm_ci m = 10) (hG : NG Z d m vs s P) (hP : ∀ a s', P a s' → n_Kt (wq J (nC Z (d + 1)) Q is L) r a s') : wq J (nC Z (d + 1)) Q (.invokevirtual m :: is) L (vs.reverse ++ r) s := by
  have h1 : (vs.reverse ++ r).take (mm_na m) = vs.reverse := by rw [hn, ← List.length_reverse]; exact List.take_left
  have h2 : (vs.reverse ++ r).drop (mm_na m) = r := by rw [hn, ← List.length_reverse]; exact List.drop_left
  show (mm_na m ≤ (vs.reverse ++ r).length ∧ (vs.reverse ++ r).length ≤ 12 ∧ ((vs.reverse ++ r).take (mm_na m)).reverse.head? = some (xR 25) ∧ mm_ci m = 10) ∧ nC Z (d + 1) m ((vs.reverse ++ r).take (mm_na m)).reverse s (n_Kt (wq J (nC Z (d + 1)) Q is L) ((vs.reverse ++ r).drop (mm_na m)))
  rw [h1, h2, List.reverse_reverse]
  exact ⟨⟨by rw [hn]; simp, by simp; omega, hr, hci⟩, NG_mono hG hP⟩
theorem n_is (hn : mm_na m = vs.length) (hl : vs.length + r.length ≤ 12) (hG : NG Z d m vs s P) (hP : ∀ a s', P a s' → n_Kt (wq J (nC Z (d + 1)) Q is L) r a s') : wq J (nC Z (d + 1)) Q (.invokestatic m :: is) L (vs.reverse ++ r) s := by
  have h1 : (vs.reverse ++ r).take (mm_na m) = vs.reverse := by rw [hn, ← List.length_reverse]; exact List.take_left
  have h2 : (vs.reverse ++ r).drop (mm_na m) = r := by rw [hn, ← List.length_reverse]; exact List.drop_left
  show (mm_na m ≤ (vs.reverse ++ r).length ∧ (vs.reverse ++ r).length ≤ 12) ∧ nC Z (d + 1) m ((vs.reverse ++ r).take (mm_na m)).reverse s (n_Kt (wq J (nC Z (d + 1)) Q is L) ((vs.reverse ++ r).drop (mm_na m)))
  rw [h1, h2, List.reverse_reverse]
  exact ⟨⟨by rw [hn]; simp, by simp; omega⟩, NG_mono hG hP⟩
end N4
