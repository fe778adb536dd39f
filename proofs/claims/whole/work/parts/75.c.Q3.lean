/-! SIMULATION Q3. Laid by wip/whole/gen/p71.py -/
section
variable {S C : mS} {n np nl T : Nat} {sz : Nat → Nat → Nat}
theorem nI_m1' {n : Nat} (h : n < 2 ^ 31) : nI n ≠ -1 := fun e => absurd (show nI n < 0 by rw [e]; decide) (nI_pos h)
theorem pre_rows (h : PRE S n np nl sz) {a : Nat} (ha : a < 8) : S 10 a = -1 ∧ S 13 a = 0 ∧ S 14 a = 0 ∧ S 15 a = 0 ∧ S 16 a = -1 ∧ S 17 a = 0 ∧ S 18 a = 0 ∧ S 19 a = -1 ∧ S 21 a = 0 ∧ S 22 a = 0 ∧ S 23 a = 0 ∧ S 23 (8 + a) = 0 ∧ S 28 a = 0 ∧ S 29 a = 0 := by
  obtain ⟨-, h, -⟩ := h
  rw [h 10 (by decide) (by decide), h 13 (by decide) (by decide), h 14 (by decide) (by decide), h 15 (by decide) (by decide), h 16 (by decide) (by decide), h 17 (by decide) (by decide), h 18 (by decide) (by decide), h 19 (by decide) (by decide), h 21 (by decide) (by decide), h 22 (by decide) (by decide), h 23 (by decide) (by decide), h 28 (by decide) (by decide), h 29 (by decide) (by decide)]
  simp [mS0, rsR, mZ, ha]
theorem inv_sc (h : INV S C n np nl T sz) : S 1 0 = nI n ∧ n ≤ 8 ∧ S 5 0 = nI np ∧ np ≤ 12 ∧ S 34 0 = nI nl ∧ nl ≤ 20 ∧ (S 2 0 = 0 ∨ S 2 0 = 1) ∧ C 1 0 = nI n ∧ C 5 0 = nI np ∧ C 34 0 = nI nl ∧ C 60 0 = (if S 2 0 = 0 then 1 else 0) ∧ sz 1 0 = n ∧ sz 6 0 = np ∧ sz 8 0 = nl := by
  obtain ⟨⟨⟨b1, b2, b3, b4, b5, b6, b7⟩, -⟩, ⟨⟨c1, c2, c3, c4, c5, c6, c7, c8⟩, -⟩, -⟩ := h
  exact ⟨b1, b2, b3, b4, b5, b6, b7, c1, c2, c3, c4, c6, c7, c8⟩
theorem inv_run (h : INV S C n np nl T sz) (hs : S 2 0 ≠ 0) : RUN S n np nl sz := by
  rcases h.2.2 with ⟨q, -⟩ | ⟨-, q⟩
  · exact absurd q hs
  · exact q
theorem inv_pre (h : INV S C n np nl T sz) (hs : S 2 0 = 0) : PRE S n np nl sz := by
  rcases h.2.2 with ⟨-, q⟩ | ⟨q, -⟩
  · exact q
  · rw [hs] at q; exact absurd q (by decide)
theorem inv_P (h : INV S C n np nl T sz) : S 2 0 ≠ 0 → PI S n ∧ ∀ a, a < n → S 12 (N S 10 a) ≠ 0 := fun hs => by
  obtain ⟨A, dd, hI, -⟩ := inv_run h hs
  refine ⟨hI.2.2.2.2.2, fun a ha e => ?_⟩
  have := (hI.2.1.1.2.2.2.2.1 a ha).1
  unfold vR at this
  have e' : N S 12 (N S 10 a) = 0 := by show (S 12 (N S 10 a)).toNatClampNeg = 0; rw [e]; rfl
  omega
theorem inv_st (h : INV S C n np nl T sz) : stC C n = stF S n ∧ (S 2 0 ≠ 0 → ∀ a, a < n → (setC C a ↔ setS S a) ∧ (lostC C a ↔ lostS S a)) := by
  have k := inv_sc h
  exact st_eq h.2.1.1 h.2.1.2.1 h.2.1.2.2.2.2.2.1 h.2.1.2.2.2.2.2.2.2.2.1 k.2.1 k.2.2.2.2.2.2.1 (inv_P h)
theorem inv_pt (h : INV S C n np nl T sz) : (S 2 0 ≠ 0 → ∀ k, k < n → ptC sz C k) ∧ (S 2 0 = 0 → ∀ k, k < n → C 10 k = -1) ∧ ptOK S n := by
  have k := inv_sc h
  refine ⟨fun hs a ha => ?_, fun hs a ha => ?_, fun hs a ha => ?_⟩
  · obtain ⟨q, r, k1, k2, k3, k4, k5⟩ := (inv_P h hs).1.1 a ha
    have hQ := h.2.1.2.2.2.2.2.2.2.2.1
    have s5 := hQ.1 a q ha (by omega) k3
    have y := hQ.2 q (by omega) s5
    exact ⟨q, r, by rw [(h.2.1.2.1 a ha).2.2.1]; exact k3, by omega, s5, by rw [y.1]; exact k4, by rw [k.2.2.2.2.2.2.2.2.2.2.2.1]; exact k2⟩
  · rw [(h.2.1.2.1 a ha).2.2.1]; exact (pre_rows (inv_pre h hs) (by omega)).1
  · obtain ⟨q, r, k1, k2, k3, k4, k5⟩ := (inv_P h hs).1.1 a ha
    exact ⟨q, r, by omega, by omega, k3, k4⟩
theorem inv_th (h : INV S C n np nl T sz) {a : Nat} (ha : a < n) (ht : S 14 a ≠ 0) : S 13 a ≠ 0 := by
  rcases h.2.2 with ⟨-, q⟩ | ⟨-, A, dd, hI, -⟩
  · exact absurd (pre_rows q (by have := (inv_sc h).2.1; omega)).2.2.1 ht
  · exact (hI.1.1.2.1 a ⟨ha, ht⟩).2
theorem parent_eq (h : INV S C n np nl T sz) (a : Int32) : (if isAgC C a then C 16 a.toNatClampNeg else -1) = (if isAgentS S a then S 16 a.toNatClampNeg else -1) := by
  have k := inv_sc h
  have s := ag_same k.2.2.2.2.2.2.2.1 k.1 k.2.1 a
  by_cases q : isAgentS S a
  · obtain ⟨j, hj, rfl⟩ := ag_k k.1 k.2.1 q
    rw [if_pos q, if_pos (s.mpr q), nI_clamp (by omega), (h.2.1.2.1 j hj).2.2.2.2.1]
  · rw [if_neg q, if_neg (fun z => q (s.mp z))]
theorem entries_eq (h : INV S C n np nl T sz) (a : Int32) : (if isAgC C a then C 57 a.toNatClampNeg else -1) = (if isAgentS S a ∧ ¬ S 23 a.toNatClampNeg ≤ 0 then S 25 a.toNatClampNeg else -1) := by
  have k := inv_sc h
  have s := ag_same k.2.2.2.2.2.2.2.1 k.1 k.2.1 a
  by_cases q : isAgentS S a
  · obtain ⟨j, hj, rfl⟩ := ag_k k.1 k.2.1 q
    rw [if_pos (s.mpr q), nI_clamp (by omega), (h.2.1.2.2.2.2.1 j hj).1]
    have nn23 := (h.1.2.2.2.2.2.2.2.2.2.1 j (by omega)).2.2.2.2.2.2.2.2.2.1
    have hT := h.1.2.2.2.2.2.2.2.2.2.2.2
    by_cases z : S 23 j = 0
    · rw [if_pos z, if_neg (fun y => y.2 (by rw [z]; decide))]
    · have nz : ¬ S 23 j ≤ 0 := fun y => z (by
        rcases Nat.eq_zero_or_pos (N S 23 j) with e | e
        · rw [nn23.1, e]; rfl
        · exfalso
          rw [nn23.1] at y
          exact nI_ge (a := 0) e (by have := nn23.2; omega) y)
      rw [if_neg z, if_pos ⟨q, nz⟩]
  · rw [if_neg (fun z => q (s.mp z)), if_neg (fun z => q z.1)]
theorem stg_2 (h : INV S C n np nl T sz) {a : Nat} (ha : a < n) : C 50 a = 2 ↔ S 14 a ≠ 0 := by
  have k := inv_sc h
  rw [(h.2.1.2.2.1 a ha).1 (by omega)]
  unfold stg
  by_cases q : S 14 a = 0
  · rw [if_pos q]
    constructor
    · intro z; split at z <;> cases z
    · intro z; exact absurd q z
  · rw [if_neg (inv_th h ha q), if_neg q]; exact ⟨fun _ => q, fun _ => rfl⟩
theorem separator_eq (h : INV S C n np nl T sz) (a : Int32) : (if isAgC C a ∧ C 50 a.toNatClampNeg = 2 then C 22 a.toNatClampNeg else -1) = (if isAgentS S a ∧ S 14 a.toNatClampNeg ≠ 0 then S 22 a.toNatClampNeg else -1) := by
  have k := inv_sc h
  have s := ag_same k.2.2.2.2.2.2.2.1 k.1 k.2.1 a
  by_cases q : isAgentS S a
  · obtain ⟨j, hj, rfl⟩ := ag_k k.1 k.2.1 q
    rw [nI_clamp (by omega)]
    have z := stg_2 h hj
    by_cases y : S 14 j = 0
    · rw [if_neg (fun w => z.mp w.2 y), if_neg (fun w => w.2 y)]
    · rw [if_pos ⟨s.mpr q, z.mpr y⟩, if_pos ⟨q, y⟩, (h.2.1.2.1 j hj).2.2.2.2.2.2.2.1]
  · rw [if_neg (fun z => q (s.mp z.1)), if_neg (fun z => q z.1)]
theorem value_eq (h : INV S C n np nl T sz) (a : Int32) : (if isAgC C a ∧ setC C a.toNatClampNeg then C 66 (256 * a.toNatClampNeg + a.toNatClampNeg) else -1) = (if isAgentS S a ∧ setS S a.toNatClampNeg then S 30 a.toNatClampNeg else -1) := by
  have k := inv_sc h
  have s := ag_same k.2.2.2.2.2.2.2.1 k.1 k.2.1 a
  by_cases q : isAgentS S a
  · obtain ⟨j, hj, rfl⟩ := ag_k k.1 k.2.1 q
    rw [nI_clamp (by omega)]
    by_cases hs : S 2 0 = 0
    · rw [if_neg (fun z => z.2.2.1 ((inv_pt h).2.1 hs j hj)), if_neg (fun z => z.2.1 hs)]
    · have e := ((inv_st h).2 hs j hj).1
      by_cases y : setS S j
      · rw [if_pos ⟨s.mpr q, e.mpr y⟩, if_pos ⟨q, y⟩]
        have n0 : S 28 j ≠ 0 := by rw [y.2]; exact (inv_P h hs).2 j hj
        obtain ⟨A, dd, hI, -⟩ := inv_run h hs
        have nn28 := (h.1.2.2.2.2.2.2.2.2.2.1 j (by omega)).2.2.2.2.2.2.2.1
        have v0 : 0 < vst S n j := by
          unfold vst; rw [if_pos hj]
          rcases Nat.eq_zero_or_pos (N S 28 j) with z | z
          · exact absurd (by rw [nn28.1, z]; rfl) n0
          · exact z
        rw [(h.2.1.2.2.2.2.2.1 j hj).2 n0 j (by omega), ((hI.2.2.2.2.1 j hj).2.2.1 v0).1]
      · rw [if_neg (fun z => y (e.mp z.2)), if_neg (fun z => y z.2)]
  · rw [if_neg (fun z => q (s.mp z.1)), if_neg (fun z => q z.1)]
end
