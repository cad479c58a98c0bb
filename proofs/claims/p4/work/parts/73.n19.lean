/-! AND MORE -/
theorem n_em_b {s : nS} {x : Int} (hn : 0 ≤ s.1 30 ∧ s.1 30 ≤ 260) : (0 ≤ (n_em s x).1 30 ∧ (n_em s x).1 30 ≤ 260) ∧ ((n_em s x).1 28 = 0 ∨ (n_em s x).1 28 = 1) := by
  unfold n_em
  split
  · refine ⟨⟨?_, ?_⟩, n_T01 _⟩
    · show 0 ≤ s.1 30 + 1; omega
    · show s.1 30 + 1 ≤ 260; omega
  · exact ⟨hn, n_T01 _⟩
section N19
variable {Z : Nat → List Int32} {d : Nat} {s : nS}
theorem ng137 {x : Int} (hd : 6 ≤ d) (hn : 0 ≤ s.1 30 ∧ s.1 30 ≤ 260) (hb : s.1 28 = 0 ∨ s.1 28 = 1) : NG Z (d + 1) 137 [xR 25, xI x] s (fun r s' => r = none ∧ s' = n_em (n_em s (n_shr x 8)) x) := by
  refine n_G_of (L := [some (xR 25), some (xI x)]) (by rw [nl137]; exact Nat.le_of_ble_eq_true rfl) (by rw [nl137]; rfl) ?_
  refine n_at nb137_0 (by omega) rfl ?_
  refine n_iv (vs := [xR 25, xI (n_shr x 8)]) (r := []) nn136 (by simp) rfl nc136 (ng136 hd hn hb) (fun r s' hr => ?_)
  rw [hr.1, hr.2]
  have h := n_em_b (x := n_shr x 8) hn
  refine n_iv (vs := [xR 25, xI x]) (r := []) nn136 (by simp) rfl nc136 (ng136 hd h.1 h.2) (fun r s' hr => ?_)
  rw [hr.1, hr.2]
  exact ⟨rfl, rfl, rfl⟩
def n_aim (s : nS) (k : Int) : nS := (s.1, n_updA (n_updA s.2 47 k.toNat (n_by (n_shr (s.1 30) 8))) 47 (k + 1).toNat (n_by (s.1 30)))
theorem ng139 {k : Int} (hd : 6 ≤ d) (hk : 0 ≤ k ∧ k < 259) : NG Z d 139 [xR 25, xI k] s (fun r s' => r = none ∧ s' = n_aim s k) := by
  refine n_G_of (L := [some (xR 25), some (xI k)]) (by rw [nl139]; exact Nat.le_of_ble_eq_true rfl) (by rw [nl139]; rfl) ?_
  exact n_at nb139_0 hd rfl ⟨⟨by omega, by omega⟩, ⟨by omega, by omega⟩, rfl, rfl, rfl⟩
/-- the slot of a symbol -/
def n_slotK (s : nS) (f : Int) : Int := n_lat (fun i => decide (s.2 38 f.toNat = 1 ∧ s.2 48 i = s.2 39 f.toNat)) (s.1 32).toNat
def n_slotS (s : nS) (f : Int) : nS := (n_upd s.1 28 (n_T (decide (¬ s.1 28 = 0 ∨ n_slotK s f < 0))), s.2)
theorem n_l138 {f : Int} (hd : 6 ≤ d) (hf : 0 ≤ f ∧ f < 1300) (hk : n_rng (s.2 38 f.toNat)) (hv : s.2 38 f.toNat = 1 → n_rng (s.2 39 f.toNat)) (hs : ∀ i : Nat, (i : Int) < s.1 32 → n_rng (s.2 48 i)) (Post : nA → nS → Prop) (w : Int) (h42 : NP Z d 138 42 [some (xR 25), some (xI f), some (xI w)] [] s Post) : ∀ k : Nat, (k ≤ 120 ∧ (k : Int) ≤ s.1 32) → n_lat (fun i => decide (s.2 38 f.toNat = 1 ∧ s.2 48 i = s.2 39 f.toNat)) k = w → NP Z d 138 7 [some (xR 25), some (xI f), some (xI ((k : Int) - 1))] [] s Post := by
  intro k
  induction k with
  | zero =>
    intro _ hw
    have hw : -1 = w := hw
    subst hw
    exact n_at nb138_7 hd rfl ⟨⟨by decide, by decide⟩, fun _ => h42, fun z => absurd (by decide : ((0 : Nat) : Int) - 1 < 0) z⟩
  | succ k ih =>
    intro hk2 hw
    have e : ((k + 1 : Nat) : Int) - 1 = (k : Int) := by omega
    rw [e]
    have hw : (if decide (s.2 38 f.toNat = 1 ∧ s.2 48 k = s.2 39 f.toNat) = true then (k : Int) else n_lat (fun i => decide (s.2 38 f.toNat = 1 ∧ s.2 48 i = s.2 39 f.toNat)) k) = w := hw
    have h36 : ¬ (s.2 38 f.toNat = 1 ∧ s.2 48 k = s.2 39 f.toNat) → NP Z d 138 36 [some (xR 25), some (xI f), some (xI (k : Int))] [] s Post := fun h => by
      rw [if_neg (fun z => h (of_decide_eq_true z))] at hw
      exact n_at nb138_36 hd rfl (ih (by omega) hw)
    refine n_at nb138_7 hd rfl ⟨⟨by omega, by omega⟩, fun z => ?_, fun _ => ⟨hf, hk, ⟨by decide, by decide⟩, fun z => h36 (fun h => z h.1), fun z => ⟨⟨by omega, by omega⟩, hf, hs k (by omega), hv z, fun z2 => ?_, fun z2 => h36 (fun h => z2 h.2)⟩⟩⟩
    · omega
    · rw [if_pos (decide_eq_true ⟨z, z2⟩)] at hw
      rw [hw]
      exact h42
theorem ng138 {f : Int} (hd : 6 ≤ d) (hf : 0 ≤ f ∧ f < 1300) (hk : n_rng (s.2 38 f.toNat)) (hv : s.2 38 f.toNat = 1 → n_rng (s.2 39 f.toNat)) (hs : ∀ i : Nat, (i : Int) < s.1 32 → n_rng (s.2 48 i)) (hn : 0 ≤ s.1 32 ∧ s.1 32 ≤ 120) (hb : s.1 28 = 0 ∨ s.1 28 = 1) : NG Z d 138 [xR 25, xI f] s (fun r s' => r = some (if n_slotK s f < 0 then 0 else s.2 49 (n_slotK s f).toNat) ∧ s' = n_slotS s f) := by
  have hkb := n_lat_b (fun i => decide (s.2 38 f.toNat = 1 ∧ s.2 48 i = s.2 39 f.toNat)) (s.1 32).toNat
  have ek : n_lat (fun i => decide (s.2 38 f.toNat = 1 ∧ s.2 48 i = s.2 39 f.toNat)) (s.1 32).toNat = n_slotK s f := rfl
  rw [ek] at hkb
  have h59 : ∀ q : Bool, q = decide (¬ s.1 28 = 0 ∨ n_slotK s f < 0) → NP Z d 138 59 [some (xR 25), some (xI f), some (xI (n_slotK s f))] [xI (n_T q), xR 25] s (fun r s' => r = some (if n_slotK s f < 0 then 0 else s.2 49 (n_slotK s f).toNat) ∧ s' = n_slotS s f) := by
    intro q hq
    have h76 : ∀ y : Int, y = (if n_slotK s f < 0 then 0 else s.2 49 (n_slotK s f).toNat) → NP Z d 138 76 [some (xR 25), some (xI f), some (xI (n_slotK s f))] [xI y] (n_slotS s f) (fun r s' => r = some (if n_slotK s f < 0 then 0 else s.2 49 (n_slotK s f).toNat) ∧ s' = n_slotS s f) := fun y hy => n_at nb138_76 hd rfl ⟨by rw [hy], rfl⟩
    refine n_at nb138_59 hd rfl ⟨n_T01 q, ?_⟩
    rw [hq]
    refine ⟨⟨by omega, by omega⟩, fun z => ?_, fun z => h76 0 (by rw [if_pos (by omega)])⟩
    refine n_at nb138_70 hd rfl ⟨⟨z, by omega⟩, h76 _ ?_⟩
    rw [if_neg (by omega)]
  have h42 : NP Z d 138 42 [some (xR 25), some (xI f), some (xI (n_slotK s f))] [] s (fun r s' => r = some (if n_slotK s f < 0 then 0 else s.2 49 (n_slotK s f).toNat) ∧ s' = n_slotS s f) := by
    have h54 : (¬ s.1 28 = 0 ∨ n_slotK s f < 0) → NP Z d 138 54 [some (xR 25), some (xI f), some (xI (n_slotK s f))] [xR 25] s (fun r s' => r = some (if n_slotK s f < 0 then 0 else s.2 49 (n_slotK s f).toNat) ∧ s' = n_slotS s f) := fun h => n_at nb138_54 hd rfl (h59 true (decide_eq_true h).symm)
    refine n_at nb138_42 hd rfl ⟨⟨by omega, by omega⟩, fun z => h54 (Or.inl z), fun z => ⟨⟨by omega, by omega⟩, fun z2 => ?_, fun z2 => h54 (by omega)⟩⟩
    exact n_at nb138_58 hd rfl (h59 false (decide_eq_false (by omega)).symm)
  refine n_G_of (L := [some (xR 25), some (xI f), none]) (by rw [nl138]; exact Nat.le_of_ble_eq_true rfl) (by rw [nl138]; rfl) ?_
  refine n_at nb138_0 hd rfl ?_
  have := n_l138 (Z := Z) hd hf hk hv hs _ (n_slotK s f) h42 (s.1 32).toNat ⟨by omega, by omega⟩ rfl
  rw [show (((s.1 32).toNat : Nat) : Int) - 1 = s.1 32 - 1 from by omega] at this
  exact this
/-! what is asked of the reference -/
theorem ng142 (hd : 6 ≤ d) : NG Z d 142 [xR 25] s (fun r s' => r = some (s.1 3) ∧ s' = (n_upd s.1 0 0, s.2)) := by
  refine n_G_of (L := [some (xR 25)]) (by rw [nl142]; exact Nat.le_of_ble_eq_true rfl) (by rw [nl142]; rfl) ?_
  exact n_at nb142_0 hd rfl ⟨rfl, rfl⟩
theorem ng146 (hd : 6 ≤ d) : NG Z d 146 [xR 25] s (fun r s' => r = none ∧ s' = (n_upd (n_upd s.1 0 0) 2 0, s.2)) := by
  refine n_G_of (L := [some (xR 25)]) (by rw [nl146]; exact Nat.le_of_ble_eq_true rfl) (by rw [nl146]; rfl) ?_
  exact n_at nb146_0 hd rfl ⟨rfl, rfl, rfl⟩
theorem ng155 (hd : 6 ≤ d) : NG Z d 155 [xR 25] s (fun r s' => r = some (s.1 4) ∧ s' = (n_upd s.1 0 0, s.2)) := by
  refine n_G_of (L := [some (xR 25)]) (by rw [nl155]; exact Nat.le_of_ble_eq_true rfl) (by rw [nl155]; rfl) ?_
  exact n_at nb155_0 hd rfl ⟨rfl, rfl⟩
/-- there is an answer -/
def n_some (r : nA) (P : Prop) : Prop := match r with
  | some _ => P
  | none => False
theorem ng156 {k : Int} (hd : 6 ≤ d) (hk : n_rng k) (hi : 0 ≤ s.1 46 ∧ s.1 46 ≤ 600) : NG Z d 156 [xR 25, xI k] s (fun r s' => n_some r (s' = (n_upd s.1 0 0, s.2))) := by
  have h43 : ∀ y : Int, NP Z d 156 43 [some (xR 25), some (xI k)] [xI y] (n_upd s.1 0 0, s.2) (fun r s' => n_some r (s' = (n_upd s.1 0 0, s.2))) := fun y => n_at nb156_43 hd rfl rfl
  have h42 : NP Z d 156 42 [some (xR 25), some (xI k)] [] (n_upd s.1 0 0, s.2) (fun r s' => n_some r (s' = (n_upd s.1 0 0, s.2))) := n_at nb156_42 hd rfl (h43 _)
  refine n_G_of (L := [some (xR 25), some (xI k)]) (by rw [nl156]; exact Nat.le_of_ble_eq_true rfl) (by rw [nl156]; rfl) ?_
  refine n_at nb156_0 hd rfl ⟨hk, ⟨by decide, by decide⟩, fun z => ?_, fun z => h43 _⟩
  refine n_at nb156_17 hd rfl ⟨hk, fun _ => h42, fun z2 => ⟨hk, ⟨by show _ ≤ s.1 46; omega, by show s.1 46 < _; omega⟩, fun _ => h42, fun z3 => ?_⟩⟩
  have z3 : ¬ s.1 46 ≤ k := z3
  exact ⟨⟨by omega, by omega⟩, h43 _⟩
def n_beg (s : nS) : nS := (n_upd (n_upd (n_upd (n_upd (n_upd (n_upd s.1 48 1) 49 0) 50 0) 51 0) 52 0) 53 0, s.2)
theorem ng154 (hd : 6 ≤ d) : NG Z d 154 [xR 25] s (fun r s' => r = none ∧ s' = n_beg s) := by
  refine n_G_of (L := [some (xR 25)]) (by rw [nl154]; exact Nat.le_of_ble_eq_true rfl) (by rw [nl154]; rfl) ?_
  exact n_at nb154_0 hd rfl ⟨rfl, rfl, rfl⟩
theorem ng157 (hd : 6 ≤ d) (hi : 0 ≤ s.1 46 ∧ s.1 46 ≤ 600) : NG Z (d + 1) 157 [xR 25] s (fun r s' => n_some r ((s.1 46 = 0 ∧ s' = (n_upd s.1 0 0, s.2)) ∨ (¬ s.1 46 = 0 ∧ s' = n_beg (n_upd s.1 0 0, s.2)))) := by
  refine n_G_of (L := [some (xR 25)]) (by rw [nl157]; exact Nat.le_of_ble_eq_true rfl) (by rw [nl157]; rfl) ?_
  refine n_at nb157_0 (by omega) rfl ⟨⟨by show _ ≤ s.1 46; omega, by show s.1 46 < _; omega⟩, fun z => ?_, fun z => ⟨Or.inl rfl, Or.inl ⟨z, rfl⟩⟩⟩
  refine n_at nb157_14 (by omega) rfl ?_
  refine n_iv (vs := [xR 25]) (r := []) nn154 (by simp) rfl nc154 (ng154 hd) (fun r s' hr => ?_)
  rw [hr.1, hr.2]
  exact ⟨Or.inr rfl, Or.inr ⟨z, rfl⟩⟩
theorem ng163 {k : Int} (hd : 6 ≤ d) (hk : n_rng k) : NG Z d 163 [xR 25, xI k] s (fun r s' => n_some r (s' = (n_upd s.1 0 0, s.2))) := by
  refine n_G_of (L := [some (xR 25), some (xI k)]) (by rw [nl163]; exact Nat.le_of_ble_eq_true rfl) (by rw [nl163]; rfl) ?_
  refine n_at nb163_0 hd rfl ⟨hk, ⟨by decide, by decide⟩, fun _ => n_at nb163_44 hd rfl rfl, fun _ => ⟨⟨by decide, by decide⟩, fun _ => n_at nb163_49 hd rfl rfl, fun _ => ⟨⟨by decide, by decide⟩, fun _ => n_at nb163_54 hd rfl rfl, fun _ => ⟨⟨by decide, by decide⟩, fun _ => n_at nb163_59 hd rfl rfl, fun _ => ⟨⟨by decide, by decide⟩, fun _ => n_at nb163_64 hd rfl rfl, fun _ => ⟨⟨by decide, by decide⟩, fun _ => n_at nb163_69 hd rfl rfl, fun _ => n_at nb163_74 hd rfl rfl⟩⟩⟩⟩⟩⟩
theorem ng164 {k : Int} (hd : 6 ≤ d) (hk : n_rng k) (ht : 0 ≤ s.1 51 ∧ s.1 51 ≤ 120) : NG Z d 164 [xR 25, xI k] s (fun r s' => n_some r (s' = (n_upd s.1 0 0, s.2))) := by
  have h27 : ∀ y : Int, NP Z d 164 27 [some (xR 25), some (xI k)] [xI y] (n_upd s.1 0 0, s.2) (fun r s' => n_some r (s' = (n_upd s.1 0 0, s.2))) := fun y => n_at nb164_27 hd rfl rfl
  have h26 : NP Z d 164 26 [some (xR 25), some (xI k)] [] (n_upd s.1 0 0, s.2) (fun r s' => n_some r (s' = (n_upd s.1 0 0, s.2))) := n_at nb164_26 hd rfl (h27 _)
  refine n_G_of (L := [some (xR 25), some (xI k)]) (by rw [nl164]; exact Nat.le_of_ble_eq_true rfl) (by rw [nl164]; rfl) ?_
  refine n_at nb164_0 hd rfl ⟨hk, fun _ => h26, fun z => ⟨hk, ⟨by show _ ≤ s.1 51; omega, by show s.1 51 < _; omega⟩, fun _ => h26, fun z2 => ?_⟩⟩
  have z2 : ¬ s.1 51 ≤ k := z2
  exact ⟨⟨by omega, by omega⟩, h27 _⟩
theorem ng165 (hd : 6 ≤ d) (ht : 0 ≤ s.1 51 ∧ s.1 51 ≤ 120) : NG Z d 165 [xR 25] s (fun r s' => n_some r (s' = (n_upd s.1 0 0, s.2))) := by
  have h27 : ∀ y : Int, NP Z d 165 27 [some (xR 25)] [xI y] (n_upd s.1 0 0, s.2) (fun r s' => n_some r (s' = (n_upd s.1 0 0, s.2))) := fun y => n_at nb165_27 hd rfl rfl
  refine n_G_of (L := [some (xR 25)]) (by rw [nl165]; exact Nat.le_of_ble_eq_true rfl) (by rw [nl165]; rfl) ?_
  refine n_at nb165_0 hd rfl ⟨⟨by show _ ≤ s.1 51; omega, by show s.1 51 < _; omega⟩, fun _ => n_at nb165_26 hd rfl (h27 _), fun z => ?_⟩
  have z : ¬ s.1 51 ≤ 0 := z
  exact ⟨⟨by show 0 ≤ s.1 51 - 1; omega, by show s.1 51 - 1 < 120; omega⟩, h27 _⟩
def n_pl (s : nS) (k : Int) : Int := n_or (n_shl (s.2 54 k.toNat % 256) 8) (s.2 54 (k + 1).toNat % 256)
theorem ng160 {k : Int} (hd : 6 ≤ d) (hk : 0 ≤ k ∧ k < 599) : NG Z d 160 [xR 25, xI k] s (fun r s' => r = some (n_pl s k) ∧ s' = s) := by
  refine n_G_of (L := [some (xR 25), some (xI k)]) (by rw [nl160]; exact Nat.le_of_ble_eq_true rfl) (by rw [nl160]; rfl) ?_
  exact n_at nb160_0 hd rfl ⟨⟨by omega, by omega⟩, ⟨by omega, by omega⟩, rfl, rfl⟩
theorem ng161 {v : Int} (hd : 6 ≤ d) (ht : 0 ≤ s.1 51 ∧ s.1 51 < 120) : NG Z d 161 [xR 25, xI v] s (fun r s' => r = none ∧ s' = (n_upd s.1 51 (s.1 51 + 1), n_updA s.2 55 (s.1 51).toNat v)) := by
  refine n_G_of (L := [some (xR 25), some (xI v)]) (by rw [nl161]; exact Nat.le_of_ble_eq_true rfl) (by rw [nl161]; rfl) ?_
  exact n_at nb161_0 hd rfl ⟨ht, rfl, rfl, rfl⟩
theorem ng152 {k v : Int} (hd : 6 ≤ d) (hk : 0 ≤ k ∧ k < 599) : NG Z d 152 [xR 25, xI k, xI v] s (fun r s' => r = none ∧ s' = (s.1, n_updA (n_updA s.2 54 k.toNat (n_by (n_shr v 8))) 54 (k + 1).toNat (n_by v))) := by
  refine n_G_of (L := [some (xR 25), some (xI k), some (xI v)]) (by rw [nl152]; exact Nat.le_of_ble_eq_true rfl) (by rw [nl152]; rfl) ?_
  exact n_at nb152_0 hd rfl ⟨⟨by omega, by omega⟩, ⟨by omega, by omega⟩, rfl, rfl, rfl⟩
end N19
