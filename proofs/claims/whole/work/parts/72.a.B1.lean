/-! SIMULATION B1. Laid by wip/whole/gen/p71.py -/
theorem cI_iff {x : Int32} {b : Nat} (h : b < 8) : cI x (nI b) ↔ x.toBitVec.getLsbD b = true := by
  have h1 : ∀ b, b < 8 → ((nI b &&& 31).toBitVec.smod 32).toNat = b := by decide
  have h2 : ((x >>> (nI b &&& 31)) &&& 1).toBitVec = (x.toBitVec.sshiftRight b) &&& 1#32 := by
    rw [Int32.toBitVec_and, Int32.toBitVec_shiftRight, BitVec.sshiftRight']
    rw [h1 b h]
    rfl
  show (x >>> (nI b &&& 31)) &&& 1 = 1 ↔ _
  rw [← Int32.toBitVec_inj, h2]
  constructor
  · intro q
    have q1 := congrArg (fun z => BitVec.getLsbD z 0) q
    have e : Int32.toBitVec 1 = 1#32 := rfl
    rw [e, BitVec.getLsbD_and, BitVec.getLsbD_sshiftRight] at q1
    simp [show b < 32 by omega] at q1
    exact q1
  · intro q
    apply BitVec.eq_of_getLsbD_eq
    intro i hi
    by_cases h0 : i = 0
    · subst h0; simp [BitVec.getLsbD_sshiftRight, show b < 32 by omega, q]
    · have : (1#32).getLsbD i = false := by simp [BitVec.getLsbD_one, h0]
      have e : Int32.toBitVec 1 = 1#32 := rfl
      rw [e, BitVec.getLsbD_and, this, Bool.and_false]
theorem cI_or {x y : Int32} {b : Nat} (h : b < 8) : cI (x ||| y) (nI b) ↔ cI x (nI b) ∨ cI y (nI b) := by
  rw [cI_iff h, cI_iff h, cI_iff h, Int32.toBitVec_or, BitVec.getLsbD_or, Bool.or_eq_true]
theorem cI_and {x y : Int32} {b : Nat} (h : b < 8) : cI (x &&& y) (nI b) ↔ cI x (nI b) ∧ cI y (nI b) := by
  rw [cI_iff h, cI_iff h, cI_iff h, Int32.toBitVec_and, BitVec.getLsbD_and, Bool.and_eq_true]
theorem cI_neg {y : Int32} {b : Nat} (h : b < 8) : cI (y ^^^ -1) (nI b) ↔ ¬ cI y (nI b) := by
  rw [cI_iff h, cI_iff h, Int32.toBitVec_xor, BitVec.getLsbD_xor]
  have e : (Int32.toBitVec (-1)).getLsbD b = true := by
    have : ∀ b, b < 8 → (Int32.toBitVec (-1)).getLsbD b = true := by decide
    exact this b h
  rw [e]; simp
theorem cI_0 {b : Nat} (h : b < 8) : ¬ cI 0 (nI b) := by
  rw [cI_iff h]; simp
theorem cI_bit : ∀ a, a < 8 → ∀ b, b < 8 → (cI (1 <<< (nI a &&& 31)) (nI b) ↔ b = a) := by decide
theorem cI_out {x : Int32} {a b : Nat} (ha : a < 8) (h : b < 8) : cI (x &&& ((1 <<< (nI a &&& 31)) ^^^ -1)) (nI b) ↔ cI x (nI b) ∧ b ≠ a := by
  rw [cI_and h, cI_neg h, cI_bit a ha b h]
theorem cI_in {x : Int32} {a b : Nat} (ha : a < 8) (h : b < 8) : cI (x ||| (1 <<< (nI a &&& 31))) (nI b) ↔ cI x (nI b) ∨ b = a := by
  rw [cI_or h, cI_bit a ha b h]
/-- how many of the first k bits -/
def pcN (x : Int32) : Nat → Nat
  | 0 => 0
  | k + 1 => if cI x (nI k) then pcN x k + 1 else pcN x k
theorem pcN_le (x : Int32) : ∀ k, pcN x k ≤ k
  | 0 => Nat.le_refl _
  | k + 1 => by rw [pcN]; have := pcN_le x k; split <;> omega
theorem pcN_bits (x : Int32) : ∀ k, bitsF x k = nI (pcN x k)
  | 0 => rfl
  | k + 1 => by
    rw [bitsF, pcN, pcN_bits x k]
    split
    · rw [nI_1]
    · rfl
theorem pcN_mono {x y : Int32} : ∀ k, k ≤ 8 → (∀ b, b < k → cI x (nI b) → cI y (nI b)) → pcN x k ≤ pcN y k
  | 0, _, _ => Nat.le_refl _
  | k + 1, h8, h => by
    have ih := pcN_mono k (by omega) (fun b hb => h b (by omega))
    rw [pcN, pcN]
    by_cases q : cI x (nI k)
    · rw [if_pos q, if_pos (h k (by omega) q)]; omega
    · rw [if_neg q]; split <;> omega
theorem pcN_same {x y : Int32} : ∀ k, k ≤ 8 → (∀ b, b < k → (cI x (nI b) ↔ cI y (nI b))) → pcN x k = pcN y k := fun k h8 h => Nat.le_antisymm (pcN_mono k h8 (fun b hb => (h b hb).mp)) (pcN_mono k h8 (fun b hb => (h b hb).mpr))
theorem pcN_in {x : Int32} {a : Nat} (ha : a < 8) (hx : ¬ cI x (nI a)) : ∀ k, k ≤ 8 → pcN (x ||| (1 <<< (nI a &&& 31))) k = pcN x k + (if a < k then 1 else 0)
  | 0, _ => rfl
  | k + 1, h8 => by
    have ih := pcN_in ha hx k (by omega)
    rw [pcN, pcN, ih]
    have e := cI_in (x := x) ha (show k < 8 by omega)
    by_cases hk : k = a
    · subst hk
      rw [if_pos (e.mpr (Or.inr rfl)), if_neg hx, if_neg (Nat.lt_irrefl k), if_pos (Nat.lt_succ_self k)]
    · by_cases q : cI x (nI k)
      · rw [if_pos (e.mpr (Or.inl q)), if_pos q]; by_cases q2 : a < k
        · rw [if_pos q2, if_pos (by omega)]
        · rw [if_neg q2, if_neg (by omega)]
      · rw [if_neg (fun z => (e.mp z).elim q hk), if_neg q]; by_cases q2 : a < k
        · rw [if_pos q2, if_pos (by omega)]
        · rw [if_neg q2, if_neg (by omega)]
