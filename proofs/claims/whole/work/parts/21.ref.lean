/-! THE REFERENCE as a state of numbers: S j i is the number in field j (i = 0), or in the array of field j at i. Written by wip/whole/gen/p21.py -/
section
abbrev mS : Type := Nat → Nat → Int32
def mo_len : Nat → Nat := fun j => match j with
  | 3 => 8
  | 4 => 32
  | 6 => 12
  | 7 => 12
  | 8 => 192
  | 9 => 8
  | 10 => 8
  | 11 => 8
  | 12 => 8
  | 13 => 8
  | 14 => 8
  | 15 => 8
  | 16 => 8
  | 17 => 8
  | 18 => 8
  | 19 => 8
  | 20 => 64
  | 21 => 8
  | 22 => 8
  | 23 => 16
  | 24 => 16
  | 25 => 16
  | 26 => 4096
  | 28 => 8
  | 29 => 8
  | 30 => 8
  | 31 => 64
  | 32 => 8
  | 35 => 21
  | 36 => 21
  | 37 => 21
  | 38 => 21
  | 39 => 21
  | 40 => 21
  | 41 => 5376
  | _ => 0
def mo_kd : Nat → Nat := fun j => match j with
  | 13 => 101
  | 14 => 101
  | 15 => 101
  | _ => 100
def mu (S : mS) (j i : Nat) (x : Int32) : mS := fun j' i' => if j' = j ∧ i' = i then x else S j' i'
/-- the object m of the reference, its arrays at ar, holds S -/
def mo (h : jm_H) (m : Nat) (ar : Nat → Nat) (S : mS) : Prop :=
  h.1 m = some (6, 0) ∧ (∀ j, j < 42 → mo_len j = 0 → h.2 6 j m = .int (S j 0)) ∧ (∀ j, j < 42 → 0 < mo_len j → h.2 6 j m = .ref (ar j) ∧ h.1 (ar j) = some (mo_kd j, mo_len j) ∧ ∀ i, i < mo_len j → h.2 100 i (ar j) = .int (S j i)) ∧ ∀ i j, i < 42 → j < 42 → 0 < mo_len i → 0 < mo_len j → ar i = ar j → i = j
/-- nothing else has changed -/
def mo_fr (m : Nat) (ar : Nat → Nat) (h h' : jm_H) : Prop := h'.1 = h.1 ∧ ∀ a, a ≠ m → (∀ j, j < 42 → 0 < mo_len j → a ≠ ar j) → ∀ t i, h'.2 t i a = h.2 t i a
theorem mo_fr.rf {m : Nat} {ar : Nat → Nat} {h : jm_H} : mo_fr m ar h h := ⟨rfl, fun _ _ _ _ _ => rfl⟩
theorem mo_fr.tr {m : Nat} {ar : Nat → Nat} {h h1 h2 : jm_H} (a : mo_fr m ar h h1) (b : mo_fr m ar h1 h2) : mo_fr m ar h h2 := ⟨b.1.trans a.1, fun q q1 q2 t i => (b.2 q q1 q2 t i).trans (a.2 q q1 q2 t i)⟩
theorem mo_ne {h : jm_H} {m : Nat} {ar : Nat → Nat} {S : mS} (hm : mo h m ar S) {j : Nat} (hj : j < 42) (hl : 0 < mo_len j) : ar j ≠ m := by
  intro q
  have h1 := (hm.2.2.1 j hj hl).2.1
  rw [q, hm.1] at h1
  have h2 : (6 : Nat) = mo_kd j := congrArg Prod.fst (Option.some.inj h1)
  unfold mo_kd at h2
  split at h2 <;> omega
theorem mo_put {h : jm_H} {m : Nat} {ar : Nat → Nat} {S : mS} {h0 : jm_H} (hm : mo h m ar S) (hf : mo_fr m ar h0 h) {j : Nat} (hj : j < 42) (hl : mo_len j = 0) (x : Int32) : mo (jm_set h 6 j m (.int x)) m ar (mu S j 0 x) ∧ mo_fr m ar h0 (jm_set h 6 j m (.int x)) := by
  refine ⟨⟨hm.1, fun j' hj' hl' => ?_, fun j' hj' hl' => ?_, hm.2.2.2⟩, hf.1, fun a ha hb t i => ?_⟩
  · show (if (6 : Nat) = 6 ∧ j' = j ∧ m = m then Value.int x else h.2 6 j' m) = .int (if j' = j ∧ 0 = 0 then x else S j' 0)
    by_cases hq : j' = j
    · simp [hq]
    · simp [hq, hm.2.1 j' hj' hl']
  · have hne := mo_ne hm hj' hl'
    obtain ⟨q1, q2, q3⟩ := hm.2.2.1 j' hj' hl'
    have hjj : j' ≠ j := fun q => by rw [q, hl] at hl'; omega
    refine ⟨?_, q2, fun i hi => ?_⟩
    · show (if (6 : Nat) = 6 ∧ j' = j ∧ m = m then Value.int x else h.2 6 j' m) = _
      simp [hjj, q1]
    · show (if (100 : Nat) = 6 ∧ i = j ∧ ar j' = m then Value.int x else h.2 100 i (ar j')) = .int (if j' = j ∧ i = 0 then x else S j' i)
      simp [hjj, q3 i hi]
  · show (if t = 6 ∧ i = j ∧ a = m then Value.int x else h.2 t i a) = _
    simp [ha, hf.2 a ha hb t i]
theorem mo_sta {h : jm_H} {m : Nat} {ar : Nat → Nat} {S : mS} {h0 : jm_H} (hm : mo h m ar S) (hf : mo_fr m ar h0 h) {j : Nat} (hj : j < 42) (hl : 0 < mo_len j) (i : Nat) (x : Int32) : mo (jm_set h 100 i (ar j) (.int x)) m ar (mu S j i x) ∧ mo_fr m ar h0 (jm_set h 100 i (ar j) (.int x)) := by
  refine ⟨⟨hm.1, fun j' hj' hl' => ?_, fun j' hj' hl' => ?_, hm.2.2.2⟩, hf.1, fun a ha hb t i' => ?_⟩
  · show (if (6 : Nat) = 100 ∧ j' = i ∧ m = ar j then Value.int x else h.2 6 j' m) = .int (if j' = j ∧ 0 = i then x else S j' 0)
    have hjj : j' ≠ j := fun q => by rw [q] at hl'; omega
    simp [hjj, hm.2.1 j' hj' hl']
  · obtain ⟨q1, q2, q3⟩ := hm.2.2.1 j' hj' hl'
    refine ⟨?_, q2, fun i' hi => ?_⟩
    · show (if (6 : Nat) = 100 ∧ j' = i ∧ m = ar j then Value.int x else h.2 6 j' m) = _
      simp [q1]
    · show (if (100 : Nat) = 100 ∧ i' = i ∧ ar j' = ar j then Value.int x else h.2 100 i' (ar j')) = .int (if j' = j ∧ i' = i then x else S j' i')
      by_cases hq : j' = j
      · subst hq
        by_cases hi2 : i' = i
        · simp [hi2]
        · simp [hi2, q3 i' hi]
      · have hn : ar j' ≠ ar j := fun q => hq (hm.2.2.2 j' j hj' hj hl' hl q)
        simp [hq, hn, q3 i' hi]
  · show (if t = 100 ∧ i' = i ∧ a = ar j then Value.int x else h.2 t i' a) = _
    have := hb j hj hl
    simp [this, hf.2 a ha hb t i']
end
section
variable {Γ : jm_G} {μ ν : jm_Mt} {d d' rc rs : Nat} {Q : jm_O → jm_H → Prop} {pc : Nat} {ls : List (Option Value)} {st As rest : List Value} {h h0 : jm_H} {m : Nat} {ar : Nat → Nat} {S : mS}
theorem mr_geti {idx j : Nat} {fin : Bool} {ty : FieldType} (hd : decode μ.2.1 pc = .ok (.getfield idx, 3)) (hf : jm_FL μ.1.cls idx 6 j fin ty) (hm : mo h m ar S) (hj : j < 42) (hl : mo_len j = 0) (k : jm_W Γ μ d rc rs Q (pc + 3) ls (.int (S j 0) :: st) h) : jm_W Γ μ d rc rs Q pc ls (.ref m :: st) h :=
  jm_getf hd hf hm.1 (by rw [hm.2.1 j hj hl]; exact k)
theorem mr_geta {idx j : Nat} {fin : Bool} {ty : FieldType} (hd : decode μ.2.1 pc = .ok (.getfield idx, 3)) (hf : jm_FL μ.1.cls idx 6 j fin ty) (hm : mo h m ar S) (hj : j < 42) (hl : 0 < mo_len j) (k : jm_W Γ μ d rc rs Q (pc + 3) ls (.ref (ar j) :: st) h) : jm_W Γ μ d rc rs Q pc ls (.ref m :: st) h :=
  jm_getf hd hf hm.1 (by rw [(hm.2.2.1 j hj hl).1]; exact k)
theorem mr_puti {idx j : Nat} {x : Int32} (hd : decode μ.2.1 pc = .ok (.putfield idx, 3)) (hf9 : jm_FL μ.1.cls idx 6 j false .int) (hm : mo h m ar S) (hf : mo_fr m ar h0 h) (hj : j < 42) (hl : mo_len j = 0) (k : ∀ h', mo h' m ar (mu S j 0 x) → mo_fr m ar h0 h' → jm_W Γ μ d rc rs Q (pc + 3) ls st h') : jm_W Γ μ d rc rs Q pc ls (.int x :: .ref m :: st) h :=
  jm_putf hd hf9 hm.1 rfl rfl (k _ (mo_put hm hf hj hl x).1 (mo_put hm hf hj hl x).2)
theorem mr_putz {idx j : Nat} {x : Int32} (hd : decode μ.2.1 pc = .ok (.putfield idx, 3)) (hf9 : jm_FL μ.1.cls idx 6 j false .boolean) (hm : mo h m ar S) (hf : mo_fr m ar h0 h) (hj : j < 42) (hl : mo_len j = 0) (hx : narrow .boolean (.int x) = .int x) (hx2 : fits .boolean (.int x) = true) (k : ∀ h', mo h' m ar (mu S j 0 x) → mo_fr m ar h0 h' → jm_W Γ μ d rc rs Q (pc + 3) ls st h') : jm_W Γ μ d rc rs Q pc ls (.int x :: .ref m :: st) h :=
  jm_putf hd hf9 hm.1 hx hx2 (k _ (mo_put hm hf hj hl x).1 (mo_put hm hf hj hl x).2)
theorem mr_ld (j : Nat) {i : Int32} (hd : decode μ.2.1 pc = .ok (.iaload, 1)) (hm : mo h m ar S) (hj : j < 42) (hl : 0 < mo_len j) (hk : mo_kd j = 100) (hi : vp_in i (mo_len j)) (k : jm_W Γ μ d rc rs Q (pc + 1) ls (.int (S j i.toNatClampNeg) :: st) h) : jm_W Γ μ d rc rs Q pc ls (.int i :: .ref (ar j) :: st) h := by
  obtain ⟨q1, q2, q3⟩ := hm.2.2.1 j hj hl
  rw [hk] at q2
  refine jm_iaload hd q2 hi ?_
  rw [q3 _ (Nat.not_le.mp fun q => hi (Or.inr q))]
  exact k
theorem mr_ldz (j : Nat) {i : Int32} (hd : decode μ.2.1 pc = .ok (.baload, 1)) (hm : mo h m ar S) (hj : j < 42) (hl : 0 < mo_len j) (hk : mo_kd j = 101) (hi : vp_in i (mo_len j)) (k : jm_W Γ μ d rc rs Q (pc + 1) ls (.int (S j i.toNatClampNeg) :: st) h) : jm_W Γ μ d rc rs Q pc ls (.int i :: .ref (ar j) :: st) h := by
  obtain ⟨q1, q2, q3⟩ := hm.2.2.1 j hj hl
  rw [hk] at q2
  refine jm_baload hd q2 hi ?_
  rw [q3 _ (Nat.not_le.mp fun q => hi (Or.inr q))]
  exact k
theorem mr_st (j : Nat) {i x : Int32} (hd : decode μ.2.1 pc = .ok (.iastore, 1)) (hm : mo h m ar S) (hf : mo_fr m ar h0 h) (hj : j < 42) (hl : 0 < mo_len j) (hk : mo_kd j = 100) (hi : vp_in i (mo_len j)) (k : ∀ h', mo h' m ar (mu S j i.toNatClampNeg x) → mo_fr m ar h0 h' → jm_W Γ μ d rc rs Q (pc + 1) ls st h') : jm_W Γ μ d rc rs Q pc ls (.int x :: .int i :: .ref (ar j) :: st) h := by
  obtain ⟨q1, q2, q3⟩ := hm.2.2.1 j hj hl
  rw [hk] at q2
  exact jm_iastore hd q2 hi (k _ (mo_sta hm hf hj hl _ x).1 (mo_sta hm hf hj hl _ x).2)
theorem mr_stz (j : Nat) {i x : Int32} (hd : decode μ.2.1 pc = .ok (.bastore, 1)) (hm : mo h m ar S) (hf : mo_fr m ar h0 h) (hj : j < 42) (hl : 0 < mo_len j) (hk : mo_kd j = 101) (hi : vp_in i (mo_len j)) (hx : narrow .boolean (.int x) = .int x) (k : ∀ h', mo h' m ar (mu S j i.toNatClampNeg x) → mo_fr m ar h0 h' → jm_W Γ μ d rc rs Q (pc + 1) ls st h') : jm_W Γ μ d rc rs Q pc ls (.int x :: .int i :: .ref (ar j) :: st) h := by
  obtain ⟨q1, q2, q3⟩ := hm.2.2.1 j hj hl
  rw [hk] at q2
  refine jm_bastore hd q2 hi ?_
  rw [hx]
  exact k _ (mo_sta hm hf hj hl _ x).1 (mo_sta hm hf hj hl _ x).2
/-- a method of the reference: from S, with the arguments av, it answers v with the state S', as Q says -/
def mM (Γ : jm_G) (μ : jm_Mt) (d m : Nat) (ar : Nat → Nat) (av : List Value) (S : mS) (Q : Option Value → mS → Prop) : Prop :=
  ∀ h, mo h m ar S → jm_M Γ μ d (.ref m :: av) h 0 0 (fun oc h' => ∃ v S', oc = .inl v ∧ Q v S' ∧ mo h' m ar S' ∧ mo_fr m ar h h')
/-- .. that only answers -/
def mA (Γ : jm_G) (μ : jm_Mt) (d m : Nat) (ar : Nat → Nat) (av : List Value) (S : mS) (v : Option Value) : Prop := ∀ h, mo h m ar S → jm_A Γ μ d (.ref m :: av) h v
theorem mr_call {idx : Nat} {Qm : Option Value → mS → Prop} (hd : decode μ.2.1 pc = .ok (.invokevirtual idx, 3)) (hl9 : Cond.methodLink μ.1.cls idx ν.1 ∈ jm_ws) (hi9 : Cond.instanceMethod ν.1 ∈ jm_ws) (hse9 : Cond.selects "BargainTreeModel" ν.1 ν.1 ∈ jm_ws) (hN : jm_NV ν As.length) (hst : st = As.reverse ++ .ref m :: rest) (hrest : rest.length ≤ 4)
    (hd' : d' + 1 ≤ d) (hM : mM Γ ν d' m ar As S Qm) (hm : mo h m ar S) (hf : mo_fr m ar h0 h)
    (k : ∀ v S' h', Qm v S' → mo h' m ar S' → mo_fr m ar h0 h' → jm_W Γ μ d rc rs Q (pc + 3) ls (v.toList ++ rest) h') : jm_W Γ μ d rc rs Q pc ls st h :=
  jm_callV (r := ("BargainTreeModel", jm_F6, 42)) hd hl9 hi9 hse9 rfl hN hst hm.1 hrest hd' (Nat.zero_le _) (Nat.zero_le _) (hM h hm) (fun v h' hq => by
    obtain ⟨v', S', hv, q1, q2, q3⟩ := hq
    cases hv
    exact k v S' h' q1 q2 (hf.tr q3)) (fun X h' hq => by
    obtain ⟨v', S', hv, -⟩ := hq
    cases hv)
theorem mr_callp {idx : Nat} {v : Option Value} (hd : decode μ.2.1 pc = .ok (.invokevirtual idx, 3)) (hl9 : Cond.methodLink μ.1.cls idx ν.1 ∈ jm_ws) (hi9 : Cond.instanceMethod ν.1 ∈ jm_ws) (hse9 : Cond.selects "BargainTreeModel" ν.1 ν.1 ∈ jm_ws) (hN : jm_NV ν As.length) (hst : st = As.reverse ++ .ref m :: rest) (hrest : rest.length ≤ 4)
    (hd' : d' + 1 ≤ d) (hM : mA Γ ν d' m ar As S v) (hm : mo h m ar S) (k : jm_W Γ μ d rc rs Q (pc + 3) ls (v.toList ++ rest) h) : jm_W Γ μ d rc rs Q pc ls st h :=
  jm_callVp (r := ("BargainTreeModel", jm_F6, 42)) hd hl9 hi9 hse9 rfl hN hst hm.1 hrest hd' (hM h hm) k
end
