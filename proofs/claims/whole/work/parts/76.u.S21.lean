/-! SIMULATION S21. Laid by wip/whole/gen/p71.py -/
section
variable {nb : Nat → Int32} {n : Nat}
theorem cI_tb : ∀ a, a < 256 → ∀ b, b < 8 → (cI (nI a) (nI b) ↔ a.testBit b = true) := by decide +kernel
theorem m_ext {x y : Int32} (hx : ∃ a, a < 256 ∧ x = nI a) (hy : ∃ a, a < 256 ∧ y = nI a) (h : ∀ b, b < 8 → (cI x (nI b) ↔ cI y (nI b))) : x = y := by
  obtain ⟨a, ha, rfl⟩ := hx
  obtain ⟨c, hc, rfl⟩ := hy
  refine congrArg nI (Nat.eq_of_testBit_eq (fun i => ?_))
  rcases Nat.lt_or_ge i 8 with q | q
  · have := h i q
    rw [cI_tb a ha i q, cI_tb c hc i q] at this
    exact Bool.eq_iff_iff.mpr this
  · have h2 : 2 ^ 8 ≤ 2 ^ i := Nat.pow_le_pow_right (by decide) q
    rw [Nat.testBit_lt_two_pow (Nat.lt_of_lt_of_le ha h2), Nat.testBit_lt_two_pow (Nat.lt_of_lt_of_le hc h2)]
theorem m_or {x y : Int32} (hx : ∃ a, a < 256 ∧ x = nI a) (hy : ∃ a, a < 256 ∧ y = nI a) : ∃ a, a < 256 ∧ x ||| y = nI a := by
  obtain ⟨a, ha, rfl⟩ := hx
  obtain ⟨c, hc, rfl⟩ := hy
  refine ⟨a ||| c, Nat.or_lt_two_pow (n := 8) ha hc, ?_⟩
  apply Int32.toBitVec_inj.mp
  rw [Int32.toBitVec_or]
  apply BitVec.eq_of_getLsbD_eq
  intro i hi
  rw [BitVec.getLsbD_or]
  have e : ∀ m, (nI m).toBitVec = BitVec.ofNat 32 m := fun m => rfl
  rw [e, e, e, BitVec.getLsbD_ofNat, BitVec.getLsbD_ofNat, BitVec.getLsbD_ofNat, Nat.testBit_or]
  simp [hi]
theorem sw_m {x : Int32} (hnb : ∀ b, b < n → ∃ a, a < 256 ∧ nb b = nI a) (hx : ∃ a, a < 256 ∧ x = nI a) : ∀ k, k ≤ n → ∃ a, a < 256 ∧ swR nb x k = nI a
  | 0, _ => hx
  | k + 1, h => by
    rw [swR]
    split
    · exact m_or (sw_m hnb hx k (by omega)) (hnb k (by omega))
    · exact sw_m hnb hx k (by omega)
theorem sw_mono {x : Int32} {b : Nat} (hb : b < 8) : ∀ k j, k ≤ j → cI (swR nb x k) (nI b) → cI (swR nb x j) (nI b)
  | k, 0, h, q => by rw [Nat.le_zero.mp h] at q; exact q
  | k, j + 1, h, q => by
    rcases Nat.lt_or_ge j k with z | z
    · rw [show k = j + 1 by omega] at q; exact q
    · have ih := sw_mono hb k j z q
      rw [swR]
      split
      · exact (cI_or hb).mpr (Or.inl ih)
      · exact ih
theorem sw_fix {x : Int32} (h8 : n ≤ 8) (h : swR nb x n = x) : ∀ k, k < n → cI x (nI k) → ∀ b, b < 8 → cI (nb k) (nI b) → cI x (nI b) := by
  intro k hk q b hb z
  have q1 : cI (swR nb x k) (nI k) := sw_mono (by omega) 0 k (Nat.zero_le _) q
  have q2 : cI (swR nb x (k + 1)) (nI b) := by rw [swR, if_pos q1]; exact (cI_or hb).mpr (Or.inr z)
  rw [← h]
  exact sw_mono hb (k + 1) n (by omega) q2
theorem sw_sub {x : Int32} {T : Nat → Prop} (h8 : n ≤ 8) (hT : ∀ k b, k < n → b < 8 → T k → cI (nb k) (nI b) → T b) (hx : ∀ b, b < 8 → cI x (nI b) → T b) : ∀ k, k ≤ n → ∀ b, b < 8 → cI (swR nb x k) (nI b) → T b
  | 0, _ => hx
  | k + 1, h => by
    intro b hb q
    have ih := sw_sub h8 hT hx k (by omega)
    rw [swR] at q
    by_cases z : cI (swR nb x k) (nI k)
    · rw [if_pos z] at q
      rcases (cI_or hb).mp q with y | y
      · exact ih b hb y
      · exact hT k b (by omega) hb (ih k (by omega) z) y
    · rw [if_neg z] at q; exact ih b hb q
theorem it_m {x : Int32} (hnb : ∀ b, b < n → ∃ a, a < 256 ∧ nb b = nI a) (hx : ∃ a, a < 256 ∧ x = nI a) : ∀ i, ∃ a, a < 256 ∧ itR nb n x i = nI a
  | 0 => hx
  | i + 1 => sw_m hnb (it_m hnb hx i) n (Nat.le_refl _)
theorem it_mono {x : Int32} {b : Nat} (hb : b < 8) : ∀ i, cI x (nI b) → cI (itR nb n x i) (nI b)
  | 0, q => q
  | i + 1, q => sw_mono hb 0 n (Nat.zero_le _) (it_mono hb i q)
theorem it_sub {x : Int32} {T : Nat → Prop} (h8 : n ≤ 8) (hT : ∀ k b, k < n → b < 8 → T k → cI (nb k) (nI b) → T b) (hx : ∀ b, b < 8 → cI x (nI b) → T b) : ∀ i, ∀ b, b < 8 → cI (itR nb n x i) (nI b) → T b
  | 0 => hx
  | i + 1 => sw_sub h8 hT (it_sub h8 hT hx i) n (Nat.le_refl _)
theorem pcN_lt {x y : Int32} : ∀ k, k ≤ 8 → (∀ b, b < k → cI x (nI b) → cI y (nI b)) → (∃ b, b < k ∧ cI y (nI b) ∧ ¬ cI x (nI b)) → pcN x k < pcN y k
  | 0, _, _, ⟨b, hb, _⟩ => absurd hb (Nat.not_lt_zero _)
  | k + 1, h8, h, ⟨b, hb, q1, q2⟩ => by
    rw [pcN, pcN]
    have hm := pcN_mono (x := x) (y := y) k (by omega) (fun b hb => h b (by omega))
    rcases Nat.lt_or_ge b k with z | z
    · have ih := pcN_lt k (by omega) (fun b hb => h b (by omega)) ⟨b, z, q1, q2⟩
      by_cases y1 : cI x (nI k)
      · rw [if_pos y1, if_pos (h k (by omega) y1)]; omega
      · rw [if_neg y1]; split <;> omega
    · have e : b = k := by omega
      rw [e] at q1 q2
      rw [if_neg q2, if_pos q1]; omega
theorem pcN_out {x : Int32} (hx : ∀ b, b < 8 → cI x (nI b) → b < n) : ∀ k, k ≤ 8 → pcN x k ≤ n
  | 0, _ => Nat.zero_le _
  | k + 1, h => by
    have ih := pcN_out hx k (by omega)
    have le := pcN_le x k
    rw [pcN]
    split
    · rename_i q; have := hx k (by omega) q; omega
    · exact ih
theorem it_fixp {x : Int32} (h8 : n ≤ 8) (hnb : ∀ b, b < n → ∃ a, a < 256 ∧ nb b = nI a) (hnn : ∀ k b, k < n → b < 8 → cI (nb k) (nI b) → b < n) (hx : ∃ a, a < 256 ∧ x = nI a) (hxn : ∀ b, b < 8 → cI x (nI b) → b < n) (hx0 : ∃ b, b < 8 ∧ cI x (nI b)) : itR nb n x (n + 1) = itR nb n x n := by
  have up : ∀ i, itR nb n x (i + 1) = itR nb n x i → itR nb n x (i + 1 + 1) = itR nb n x (i + 1) := fun i h => by
    show swR nb (itR nb n x (i + 1)) n = _
    rw [h]; exact h
  have later : ∀ j i, itR nb n x (i + 1) = itR nb n x i → itR nb n x (i + j + 1) = itR nb n x (i + j) := by
    intro j
    induction j with
    | zero => intro i h; exact h
    | succ j ih => intro i h; exact up (i + j) (ih i h)
  have P : ∀ i, (∃ j, j ≤ i ∧ itR nb n x (j + 1) = itR nb n x j) ∨ i + 1 ≤ pcN (itR nb n x i) 8 := by
    intro i
    induction i with
    | zero =>
      refine Or.inr ?_
      obtain ⟨b, hb, q⟩ := hx0
      have : pcN 0 8 < pcN x 8 := pcN_lt 8 (Nat.le_refl _) (fun b hb z => absurd z (cI_0 hb)) ⟨b, hb, q, cI_0 hb⟩
      show 1 ≤ pcN x 8
      omega
    | succ i ih =>
      rcases ih with ⟨j, h1, h2⟩ | h
      · exact Or.inl ⟨j, by omega, h2⟩
      · by_cases e : itR nb n x (i + 1) = itR nb n x i
        · exact Or.inl ⟨i, by omega, e⟩
        · refine Or.inr ?_
          have : pcN (itR nb n x i) 8 < pcN (itR nb n x (i + 1)) 8 := by
            refine pcN_lt 8 (Nat.le_refl _) (fun b hb z => sw_mono hb 0 n (Nat.zero_le _) z) ?_
            refine Classical.byContradiction (fun z => e (m_ext (it_m hnb hx (i + 1)) (it_m hnb hx i) (fun b hb => ⟨fun y => ?_, fun y => sw_mono hb 0 n (Nat.zero_le _) y⟩)))
            exact Classical.byContradiction (fun w => z ⟨b, hb, y, w⟩)
          omega
  rcases P n with ⟨j, h1, h2⟩ | h
  · have := later (n - j) j h2
    rw [show j + (n - j) = n by omega] at this
    exact this
  · have := pcN_out (n := n) (x := itR nb n x n) (it_sub h8 (fun k b hk hb _ q => hnn k b hk hb q) hxn n) 8 (Nat.le_refl _)
    omega
theorem bit_m : ∀ a, a < 8 → ∃ m, m < 256 ∧ (1 <<< (nI a &&& 31) : Int32) = nI m := fun a ha => ⟨2 ^ a, Nat.pow_lt_pow_right (by decide) ha, by
  have : ∀ a, a < 8 → (1 <<< (nI a &&& 31) : Int32) = nI (2 ^ a) := by decide
  exact this a ha⟩
end
