/-! A truth on the stack, asked -/
section
variable {Γ : jm_G} {μ : jm_Mt} {d rc rs : Nat} {Q : jm_O → jm_H → Prop} {pc : Nat} {ls : List (Option Value)} {st : List Value} {h : jm_H}
theorem jm_bz_eq {P : Prop} [Decidable P] {off : Int} (tgt : Nat) (hd : decode μ.2.1 pc = .ok (.ifCond .eq off, 3)) (ht : (pc : Int) + off = (tgt : Int)) (kt : ¬ P → jm_W Γ μ d rc rs Q tgt ls st h) (kf : P → jm_W Γ μ d rc rs Q (pc + 3) ls st h) : jm_W Γ μ d rc rs Q pc ls (.int (if P then 1 else 0) :: st) h :=
  jm_if_eq tgt hd ht (fun q => kt (fun p => by rw [if_pos p] at q; exact absurd q (by decide))) (fun q => kf (Decidable.byContradiction fun p => q (if_neg p)))
theorem jm_bz_ne {P : Prop} [Decidable P] {off : Int} (tgt : Nat) (hd : decode μ.2.1 pc = .ok (.ifCond .ne off, 3)) (ht : (pc : Int) + off = (tgt : Int)) (kt : P → jm_W Γ μ d rc rs Q tgt ls st h) (kf : ¬ P → jm_W Γ μ d rc rs Q (pc + 3) ls st h) : jm_W Γ μ d rc rs Q pc ls (.int (if P then 1 else 0) :: st) h :=
  jm_if_ne tgt hd ht (fun q => kt (Decidable.byContradiction fun p => q (if_neg p))) (fun q => kf (fun p => q (by rw [if_pos p]; decide)))
def thF (c1 c2 : Prop) [Decidable c1] [Decidable c2] : Int32 := if c1 then 1 else if c2 then 2 else 0
theorem thF_0 {c1 c2 : Prop} [Decidable c1] [Decidable c2] : thF c1 c2 = 0 ↔ ¬ c1 ∧ ¬ c2 := by
  unfold thF
  by_cases h1 : c1 <;> by_cases h2 : c2 <;> simp [h1, h2]
theorem thF_le {c1 c2 : Prop} [Decidable c1] [Decidable c2] : thF c1 c2 ≤ 0 ↔ thF c1 c2 = 0 := by
  unfold thF
  by_cases h1 : c1 <;> by_cases h2 : c2 <;> simp [h1, h2] <;> decide
theorem thF_1 {c1 c2 : Prop} [Decidable c1] [Decidable c2] (h : c1) : (1 : Int32) = thF c1 c2 := by unfold thF; rw [if_pos h]
theorem thF_2 {c1 c2 : Prop} [Decidable c1] [Decidable c2] (h : ¬ c1) (h2 : c2) : (2 : Int32) = thF c1 c2 := by unfold thF; rw [if_neg h, if_pos h2]
theorem thF_3 {c1 c2 : Prop} [Decidable c1] [Decidable c2] (h : ¬ c1) (h2 : ¬ c2) : (0 : Int32) = thF c1 c2 := by unfold thF; rw [if_neg h, if_neg h2]
end
