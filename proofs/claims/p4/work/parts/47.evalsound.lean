theorem mm_call_of {Z : Nat → List Int32} {n d mi m : Nat} {is : List Instr} {L : mm_L} {st : List mm_V} {h h' : mm_H} {r : mm_A} {Post : mm_A → mm_H → Prop}
    (ih : ∀ (d mi : Nat) (is : List Instr) (L : mm_L) (st : List mm_V) (h : mm_H) (r : mm_A) (h' : mm_H), mm_hd mi = [] → mm_ev n d mi is L st h = some (r, h') → ∀ Post : mm_A → mm_H → Prop, Post r h' → mm_wp mm_K Z mm_na 6 mm_ci (fun t L st h => mm_P Z (d + 6) mi t L st h Post) (mm_C Z (d + 6)) Post is L st h)
    (hh : mm_hd mi = []) (hp : Post r h')
    (hc : mm_evC (mm_ev n) d mi is L st h m = some (r, h')) :
    mm_na m ≤ st.length ∧ st.length ≤ 12 ∧ mm_C Z (d + 6) m (st.take (mm_na m)).reverse h (mm_Kt Post (mm_wp mm_K Z mm_na 6 mm_ci (fun t L st h => mm_P Z (d + 6) mi t L st h Post) (mm_C Z (d + 6)) Post is L) (st.drop (mm_na m))) := by
  cases d with
  | zero => simp [mm_evC] at hc
  | succ d =>
    unfold mm_evC at hc
    simp only at hc
    split at hc
    · rename_i hq
      obtain ⟨q1, q2, q3, q4⟩ := hq
      refine ⟨q1, q2, ?_⟩
      obtain ⟨is', hb, hc⟩ := Option.bind_eq_some_iff.mp hc
      obtain ⟨⟨r1, h1⟩, hb2, hc⟩ := Option.bind_eq_some_iff.mp hc
      obtain ⟨hs, hchk⟩ := mm_blk_chk hb
      refine mm_G_of q4 (mm_sound (d := d + 6) (by omega) is' 0 hs _ _ _ (Or.inl q3) hchk (ih d m is' _ _ _ r1 h1 q3 hb2 _ ?_))
      obtain (_ | v) | e := r1
      · exact ih (d + 1) mi is _ _ _ r h' hh hc Post hp
      · exact ih (d + 1) mi is _ _ _ r h' hh hc Post hp
      · simp only [Option.some.injEq, Prod.mk.injEq] at hc
        obtain ⟨rfl, rfl⟩ := hc
        exact hp
    · cases hc
set_option maxHeartbeats 4000000 in
theorem mm_ev_wp {Z : Nat → List Int32} : ∀ (n d mi : Nat) (is : List Instr) (L : mm_L) (st : List mm_V) (h : mm_H) (r : mm_A) (h' : mm_H), mm_hd mi = [] → mm_ev n d mi is L st h = some (r, h') → ∀ Post : mm_A → mm_H → Prop, Post r h' → mm_wp mm_K Z mm_na 6 mm_ci (fun t L st h => mm_P Z (d + 6) mi t L st h Post) (mm_C Z (d + 6)) Post is L st h := by
  intro n
  induction n with
  | zero => intro d mi is L st h r h' _ he; simp [mm_ev] at he
  | succ n ih =>
    intro d mi is L st h r h' hh he Post hp
    have jump : ∀ (t : Nat) (L : mm_L) (st : List mm_V) (h : mm_H), mm_evJ (mm_ev n) d mi t L st h = some (r, h') → mm_P Z (d + 6) mi t L st h Post := by
      intro t L st h hj
      obtain ⟨is', hb, hj⟩ := Option.bind_eq_some_iff.mp hj
      obtain ⟨hs, hchk⟩ := mm_blk_chk hb
      exact mm_sound (by omega) is' t hs L st h (Or.inl hh) hchk (ih d mi is' L st h r h' hh hj Post hp)
    cases is with
    | nil => simp [mm_ev] at he
    | cons i is =>
      have go : ∀ (L : mm_L) (st : List mm_V) (h : mm_H), mm_ev n d mi is L st h = some (r, h') → mm_wp mm_K Z mm_na 6 mm_ci (fun t L st h => mm_P Z (d + 6) mi t L st h Post) (mm_C Z (d + 6)) Post is L st h := fun L st h hj => ih d mi is L st h r h' hh hj Post hp
      unfold mm_ev at he
      unfold mm_wp
      split at he
      · exact jump _ _ _ _ he
      · exact jump _ _ _ _ he
      · split at he
        · split at he
          · rename_i hc; exact ⟨fun _ => jump _ _ _ _ he, fun z => absurd (mm_cmpb_iff.mp hc) z⟩
          · rename_i hc; exact ⟨fun z => absurd (mm_cmpb_iff.mpr z) hc, fun _ => go _ _ _ he⟩
        · cases he
      · split at he
        · split at he
          · rename_i hc; exact ⟨fun _ => jump _ _ _ _ he, fun z => absurd (mm_cmpb_iff.mp hc) z⟩
          · rename_i hc; exact ⟨fun z => absurd (mm_cmpb_iff.mpr z) hc, fun _ => go _ _ _ he⟩
        · cases he
      · split at he
        · split at he
          · rename_i hc; exact ⟨fun _ => jump _ _ _ _ he, fun z => absurd hc z⟩
          · rename_i hc; exact ⟨fun z => absurd z hc, fun _ => go _ _ _ he⟩
        · cases he
      · split at he
        · split at he
          · rename_i hc; exact ⟨fun _ => jump _ _ _ _ he, fun z => absurd z hc⟩
          · rename_i hc; exact ⟨fun z => absurd z hc, fun _ => go _ _ _ he⟩
        · cases he
      · split at he
        · split at he
          · rename_i hc; exact ⟨fun _ => jump _ _ _ _ he, fun z => absurd hc z⟩
          · rename_i hc; exact ⟨fun z => absurd z hc, fun _ => go _ _ _ he⟩
        · cases he
      · split at he
        · split at he
          · rename_i hc; exact ⟨fun _ => jump _ _ _ _ he, fun z => absurd z hc⟩
          · rename_i hc; exact ⟨fun z => absurd z hc, fun _ => go _ _ _ he⟩
        · cases he
      · split at he
        · exact mm_swv_of (jump _ _ _ _ he)
        · cases he
      · exact mm_call_of ih hh hp he
      · cases he
      · split at he
        · rename_i hrc
          obtain ⟨q1, q2, q3⟩ := mm_call_of ih hh hp he
          exact ⟨q1, q2, mm_rcvb_of hrc, q3⟩
        · cases he
      · split at he
        · split at he
          · rename_i hc; exact ⟨hc, go _ _ _ he⟩
          · cases he
        · cases he
      · split at he
        · rename_i hc
          simp only [Option.some.injEq, Prod.mk.injEq] at he
          obtain ⟨rfl, rfl⟩ := he
          exact ⟨hc.1, hc.2.1, hc.2.2, hp⟩
        · cases he
      · split at he
        · simp only [Option.some.injEq, Prod.mk.injEq] at he
          obtain ⟨rfl, rfl⟩ := he
          exact ⟨rfl, hp⟩
        · cases he
      · split at he
        · simp only [Option.some.injEq, Prod.mk.injEq] at he
          obtain ⟨rfl, rfl⟩ := he
          exact hp
        · cases he
      · split at he
        · split at he
          · rename_i hc
            simp only [Option.some.injEq, Prod.mk.injEq] at he
            obtain ⟨rfl, rfl⟩ := he
            exact ⟨hc, hp⟩
          · cases he
        · cases he
      · cases he
      · split at he
        · simp only [Option.some.injEq, Prod.mk.injEq] at he
          obtain ⟨rfl, rfl⟩ := he
          exact hp
        · cases he
      · split at he
        · split at he
          · rename_i hc; exact ⟨hc, go _ _ _ he⟩
          · cases he
        · cases he
      · split at he
        · split at he
          · rename_i hc; exact ⟨hc, go _ _ _ he⟩
          · cases he
        · cases he
      · split at he
        · rename_i hnz
          rw [mm_s1_nz (Z' := Z) hnz] at he
          split at he
          · rename_i o ho
            split <;> first
              | (rw [ho]; exact go _ _ _ he)
              | contradiction
          · cases he
        · cases he
/-- a method's contract by the interpreter -/
theorem mm_ev_G {Z : Nat → List Int32} {n d mi : Nat} {is : List Instr} {vs : List mm_V} {h h' : mm_H} {r : mm_A} {Post : mm_A → mm_H → Prop} (hh : mm_hd mi = []) (hl : (mm_argsL vs).length ≤ mm_ml mi) (hb : mm_blk mi 0 = some is) (he : mm_ev n d mi is (mm_ent (mm_ml mi) vs) [] h = some (r, h')) (hp : Post r h') : mm_G Z (d + 6) mi vs h Post := by
  obtain ⟨hs, hchk⟩ := mm_blk_chk hb
  exact mm_G_of hl (mm_sound (by omega) is 0 hs _ _ _ (Or.inl hh) hchk (mm_ev_wp n d mi is _ _ _ r h' hh he Post hp))
/-- run the method mi -/
def mm_run (n d mi : Nat) (vs : List mm_V) (h : mm_H) : Option (mm_A × mm_H) := if mm_hd mi = [] ∧ (mm_argsL vs).length ≤ mm_ml mi then (mm_blk mi 0).bind fun is => mm_ev n d mi is (mm_ent (mm_ml mi) vs) [] h else none
theorem mm_run_G {Z : Nat → List Int32} {n d mi : Nat} {vs : List mm_V} {h h' : mm_H} {r : mm_A} {Post : mm_A → mm_H → Prop} (he : mm_run n d mi vs h = some (r, h')) (hp : Post r h') : mm_G Z (d + 6) mi vs h Post := by
  unfold mm_run at he
  split at he
  · rename_i hc
    obtain ⟨is, hb, he⟩ := Option.bind_eq_some_iff.mp he
    exact mm_ev_G hc.1 hc.2 hb he hp
  · cases he
