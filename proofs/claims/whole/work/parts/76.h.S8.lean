/-! SIMULATION S8. Laid by wip/whole/gen/p71.py -/
section
variable {S S' C : mS} {n np nl T : Nat} {sz : Nat → Nat → Nat} {hx : Nat}
theorem n20_lt (hn : S 34 0 = nI nl) (q : nl < 20) : ¬ S 34 0 = 20 := by
  rw [hn]; intro e; have := nI_inj (b := 20) (by omega) (by omega) e; omega
theorem n20_eq (hn : S 34 0 = nI nl) (h20 : nl ≤ 20) (q : 20 ≤ nl) : S 34 0 = 20 := by
  rw [hn, show nl = 20 by omega]; rfl
theorem PS_pt {k : Nat} (hn : S 34 0 = nI nl) (h20 : nl ≤ 20) (hw : N S 25 k ≤ 256) : PS S (ptS S k) nl 2 (nI k) (S 16 k) (S 23 k) (S 25 k) (S 24 k) ∧ (nl < 20 → ∀ i, i < N S 25 k → ptS S k 41 (256 * nl + i) = S 26 (256 * k + i)) := by
  have en : (S 34 0).toNatClampNeg = nl := N_nI (show S 34 0 = nI nl from hn) (by omega)
  rcases Nat.lt_or_ge nl 20 with q | q
  · have ep : ptS S k = cpB (mu (mu (postS S 2 (nI k) (S 16 k) (S 23 k)) 40 nl (S 24 k)) 39 nl (S 25 k)) 41 (256 * nl) 26 (256 * k) (N S 25 k) := by
      unfold ptS; rw [if_neg (n20_lt hn q), en]
    rw [ep]
    unfold postS
    rw [en, hn, nI_1]
    refine ⟨Or.inr ⟨q, ?_, ?_, ?_, ?_, ?_⟩, fun _ i hi => ?_⟩
    · simp [cpB, mu]
    · intro j q0 qj
      funext i
      have : j ≠ 34 ∧ j ≠ 35 ∧ j ≠ 36 ∧ j ≠ 37 ∧ j ≠ 38 ∧ j ≠ 39 ∧ j ≠ 40 ∧ j ≠ 41 := by omega
      simp [cpB, mu, this]
    · simp [cpB, mu]
    · intro j x h1 h2 hk
      have : j ≠ 41 ∧ j ≠ 34 := by omega
      simp [cpB, mu, hk, this]
    · intro i hi
      have : ¬ (256 * nl ≤ i) := by omega
      simp [cpB, mu, this]
    · have : 256 * nl ≤ 256 * nl + i ∧ 256 * nl + i < 256 * nl + N S 25 k := by omega
      simp [cpB, mu]
      intro z; exact absurd hi (by omega)
  · exact ⟨Or.inl ⟨by omega, if_pos (n20_eq hn h20 q)⟩, fun z => by omega⟩
theorem cnt_cc {k : Nat} (h : rowK S n (fun x => S 31 (8 * k + x))) (h3 : ∀ b, b < 8 → nn S 3 b 4) : ∀ b, b ≤ 8 → cntF S k b = nI (ccR (fun x => S 31 (8 * k + x)) b)
  | 0, _ => rfl
  | b + 1, hb => by
    rw [cntF, ccR, cnt_cc h h3 b (by omega)]
    rcases h b (by omega) with q | ⟨-, v, q1, q2⟩
    · have q' : S 31 (8 * k + b) = -1 := q
      rw [q', if_neg (by decide), if_pos rfl]
    · have q' : S 31 (8 * k + b) = nI v := q2
      have := (h3 b (by omega)).2
      rw [q', if_pos (nI_pos' (by omega)), if_neg (nI_m1' (by omega)), nI_1]
theorem PS_pc1 {k c : Nat} (hn : S 34 0 = nI nl) (h20 : nl ≤ 20) : PS S (pc1 S k c) nl 3 (nI k) (S 20 (8 * k + c)) (S 28 k) (cntF S k 8) 0 ∧ (nl < 20 → ∀ i, i < 8 → pc1 S k c 41 (256 * nl + i) = S 31 (8 * k + i)) := by
  have en : (S 34 0).toNatClampNeg = nl := N_nI (show S 34 0 = nI nl from hn) (by omega)
  rcases Nat.lt_or_ge nl 20 with q | q
  · have ep : pc1 S k c = mu (cpB (postS S 3 (nI k) (S 20 (8 * k + c)) (S 28 k)) 41 (256 * nl) 31 (8 * k) 8) 39 nl (cntF S k 8) := by
      unfold pc1; rw [if_neg (n20_lt hn q), en]
    rw [ep]
    unfold postS
    rw [en, hn, nI_1]
    refine ⟨Or.inr ⟨q, ?_, ?_, ?_, ?_, ?_⟩, fun _ i hi => ?_⟩
    · simp [cpB, mu]
    · intro j q0 qj
      funext i
      have : j ≠ 34 ∧ j ≠ 35 ∧ j ≠ 36 ∧ j ≠ 37 ∧ j ≠ 38 ∧ j ≠ 39 ∧ j ≠ 40 ∧ j ≠ 41 := by omega
      simp [cpB, mu, this]
    · simp [cpB, mu]
    · intro j x h1 h2 hk
      have : j ≠ 41 ∧ j ≠ 34 := by omega
      simp [cpB, mu, hk, this]
    · intro i hi
      have : ¬ (256 * nl ≤ i) := by omega
      simp [cpB, mu, this]
    · simp [cpB, mu]
      intro z; exact absurd hi (by omega)
  · exact ⟨Or.inl ⟨by omega, if_pos (n20_eq hn h20 q)⟩, fun z => by omega⟩
/-- a letter doubled -/
theorem PS_dup {k : Nat} (h20 : nl < 20) (hk : k < nl) : PS S (mu (cpL (mu S 0 0 0) k nl) 34 0 (nI (nl + 1))) nl (S 35 k) (S 36 k) (S 37 k) (S 38 k) (S 39 k) (S 40 k) ∧ ∀ i, i < 256 → (mu (cpL (mu S 0 0 0) k nl) 34 0 (nI (nl + 1))) 41 (256 * nl + i) = S 41 (256 * k + i) := by
  have hkl : k ≠ nl := by omega
  refine ⟨Or.inr ⟨h20, ?_, ?_, ?_, ?_, ?_⟩, fun i hi => ?_⟩
  · simp [mu]
  · intro j q0 qj
    funext i
    have : j ≠ 34 ∧ j ≠ 35 ∧ j ≠ 36 ∧ j ≠ 37 ∧ j ≠ 38 ∧ j ≠ 39 ∧ j ≠ 40 ∧ j ≠ 41 ∧ j ≠ 0 := by omega
    simp [cpL, cp6, cpB, mu, this]
  · simp [cpL, cp6, cpB, mu, hkl]
  · intro j x h1 h2 hx
    have : j ≠ 41 ∧ j ≠ 34 ∧ j ≠ 0 := by omega
    simp [cpL, cp6, cpB, mu, hx, this]
  · intro i hi
    have : ¬ (256 * nl ≤ i) := by omega
    simp [cpL, cp6, cpB, mu, this]
  · have : 256 * nl + i < 256 * nl + 256 := by omega
    simp [cpL, cp6, cpB, mu]
    intro z; exact absurd hi (by omega)
/-- letters moved down by one, of the reference -/
theorem shL_r {k : Nat} : ∀ m, (∀ j y, 35 ≤ j → j ≤ 40 → shL S k m j y = if k ≤ y ∧ y < k + m then S j (y + 1) else S j y) ∧ (∀ z, shL S k m 41 z = if 256 * k ≤ z ∧ z < 256 * (k + m) then S 41 (z + 256) else S 41 z) ∧ ∀ j, j < 35 → shL S k m j = S j
  | 0 => ⟨fun j y _ _ => by rw [if_neg (by omega)]; rfl, fun z => by rw [if_neg (by omega)]; rfl, fun j _ => rfl⟩
  | m + 1 => by
    obtain ⟨h1, h2, h3⟩ := shL_r m
    refine ⟨fun j y q1 q2 => ?_, fun z => ?_, fun j hj => ?_⟩
    · have e : shL S k (m + 1) j y = if y = k + m then shL S k m j (k + 1 + m) else shL S k m j y := by
        rw [shL]
        have : j = 35 ∨ j = 36 ∨ j = 37 ∨ j = 38 ∨ j = 39 ∨ j = 40 := by omega
        rcases this with rfl | rfl | rfl | rfl | rfl | rfl <;> simp [cpL, cp6, cpB, mu]
      rw [e]
      by_cases z : y = k + m
      · rw [if_pos z, h1 j _ q1 q2, if_neg (by omega), if_pos (by omega), z, show k + 1 + m = k + m + 1 by omega]
      · rw [if_neg z, h1 j y q1 q2]
        by_cases z2 : k ≤ y ∧ y < k + m
        · rw [if_pos z2, if_pos (by omega)]
        · rw [if_neg z2, if_neg (by omega)]
    · have e : shL S k (m + 1) 41 z = if 256 * (k + m) ≤ z ∧ z < 256 * (k + m) + 256 then shL S k m 41 (256 * (k + 1 + m) + (z - 256 * (k + m))) else shL S k m 41 z := by
        rw [shL]
        simp [cpL, cp6, cpB, mu]
      rw [e]
      by_cases y : 256 * (k + m) ≤ z ∧ z < 256 * (k + m) + 256
      · rw [if_pos y, h2, if_neg (by omega), if_pos (by omega)]
        exact congrArg (S 41) (by omega)
      · rw [if_neg y, h2]
        by_cases y2 : 256 * k ≤ z ∧ z < 256 * (k + m)
        · rw [if_pos y2, if_pos (by omega)]
        · rw [if_neg y2, if_neg (by omega)]
    · rw [shL]
      funext i
      have : j ≠ 35 ∧ j ≠ 36 ∧ j ≠ 37 ∧ j ≠ 38 ∧ j ≠ 39 ∧ j ≠ 40 ∧ j ≠ 41 := by omega
      simp [cpL, cp6, cpB, mu, this]
      rw [h3 j hj]
theorem tkC_r {k : Nat} : ∀ m, (∀ j y, (35 ≤ j ∧ j ≤ 38) ∨ j = 67 → tkC C k m j y = if k ≤ y ∧ y < k + m then C j (y + 1) else C j y) ∧ ∀ z, tkC C k m 68 z = if 256 * k ≤ z ∧ z < 256 * (k + m) then C 68 (z + 256) else C 68 z
  | 0 => ⟨fun j y _ => by rw [if_neg (by omega)]; rfl, fun z => by rw [if_neg (by omega)]; rfl⟩
  | m + 1 => by
    obtain ⟨h1, h2⟩ := tkC_r m
    refine ⟨fun j y q1 => ?_, fun z => ?_⟩
    · have e : tkC C k (m + 1) j y = if y = k + m then tkC C k m j (k + m + 1) else tkC C k m j y := by
        rw [tkC]
        have : j = 35 ∨ j = 36 ∨ j = 37 ∨ j = 38 ∨ j = 67 := by omega
        rcases this with rfl | rfl | rfl | rfl | rfl <;> simp [ltS, tbS, mu]
      rw [e]
      by_cases z : y = k + m
      · rw [if_pos z, h1 j _ q1, if_neg (by omega), if_pos (by omega), z]
      · rw [if_neg z, h1 j y q1]
        by_cases z2 : k ≤ y ∧ y < k + m
        · rw [if_pos z2, if_pos (by omega)]
        · rw [if_neg z2, if_neg (by omega)]
    · have e : tkC C k (m + 1) 68 z = if 256 * (k + m) ≤ z ∧ z < 256 * (k + m) + 256 then tkC C k m 68 (256 * (k + m + 1) + (z - 256 * (k + m))) else tkC C k m 68 z := by
        rw [tkC]
        simp [ltS, tbS, mu]
      rw [e]
      by_cases y : 256 * (k + m) ≤ z ∧ z < 256 * (k + m) + 256
      · rw [if_pos y, h2, if_neg (by omega), if_pos (by omega)]
        exact congrArg (C 68) (by omega)
      · rw [if_neg y, h2]
        by_cases y2 : 256 * k ≤ z ∧ z < 256 * (k + m)
        · rw [if_pos y2, if_pos (by omega)]
        · rw [if_neg y2, if_neg (by omega)]
end
