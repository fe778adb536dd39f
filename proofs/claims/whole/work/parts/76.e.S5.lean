/-! SIMULATION S5. Laid by wip/whole/gen/p71.py -/
section
variable {S C : mS} {n np nl T : Nat} {sz : Nat → Nat → Nat} {A : Rl} {dd : Nat → Nat} {hh : Nat → Prop}
theorem SIM_dlv (h8 : n ≤ 8) {a b k : Nat} {m w : Int32} {e : Nat → Int32} {hx : Nat} (ha : a < n) (hb : b < n) (hk : k < chn S a) (hck : chd S a k = nI b) (h7 : ∀ x, x < n → N S 21 x ≤ 7) (huq : ∀ x j, x < n → j < chn S x → chd S x j = nI b → x = a ∧ j = k) (hcn : ∀ x j, x < n → j < chn S x → ∃ c, c < n ∧ chd S x j = nI c) (h25 : ∀ c, c < n → S 23 (8 + c) ≠ 0 → N S 25 (8 + c) ≤ 256) (h25a : ∀ c, c < n → S 23 c ≠ 0 → N S 25 c ≤ 256) (hm : m = S 38 20) (hm0 : m ≠ 0) (hw : w = S 39 20) (hw2 : N S 39 20 ≤ 256) (he : ∀ i, i < N S 39 20 → e i = un (S 41 (5120 + i))) (M : SIM S C n np nl sz hx) : SIM (tb0 S b) (tt0 C a k m w e) n np nl (sz) hx := by
  obtain ⟨M1, MG, ME, MC, MT, MK, MO, MP, MQ, ML⟩ := M
  have r2 : (tb0 S b) 2 = S 2 := by funext i; simp [tb0, cpB, tb1, mu]
  have r3 : (tb0 S b) 3 = S 3 := by funext i; simp [tb0, cpB, tb1, mu]
  have r4 : (tb0 S b) 4 = S 4 := by funext i; simp [tb0, cpB, tb1, mu]
  have r6 : (tb0 S b) 6 = S 6 := by funext i; simp [tb0, cpB, tb1, mu]
  have r7 : (tb0 S b) 7 = S 7 := by funext i; simp [tb0, cpB, tb1, mu]
  have r8 : (tb0 S b) 8 = S 8 := by funext i; simp [tb0, cpB, tb1, mu]
  have r9 : (tb0 S b) 9 = S 9 := by funext i; simp [tb0, cpB, tb1, mu]
  have r10 : (tb0 S b) 10 = S 10 := by funext i; simp [tb0, cpB, tb1, mu]
  have r11 : (tb0 S b) 11 = S 11 := by funext i; simp [tb0, cpB, tb1, mu]
  have r12 : (tb0 S b) 12 = S 12 := by funext i; simp [tb0, cpB, tb1, mu]
  have r13 : (tb0 S b) 13 = S 13 := by funext i; simp [tb0, cpB, tb1, mu]
  have r14 : (tb0 S b) 14 = S 14 := by funext i; simp [tb0, cpB, tb1, mu]
  have r15 : (tb0 S b) 15 = S 15 := by funext i; simp [tb0, cpB, tb1, mu]
  have r16 : (tb0 S b) 16 = S 16 := by funext i; simp [tb0, cpB, tb1, mu]
  have r17 : (tb0 S b) 17 = S 17 := by funext i; simp [tb0, cpB, tb1, mu]
  have r18 : (tb0 S b) 18 = S 18 := by funext i; simp [tb0, cpB, tb1, mu]
  have r19 : (tb0 S b) 19 = S 19 := by funext i; simp [tb0, cpB, tb1, mu]
  have r20 : (tb0 S b) 20 = S 20 := by funext i; simp [tb0, cpB, tb1, mu]
  have r21 : (tb0 S b) 21 = S 21 := by funext i; simp [tb0, cpB, tb1, mu]
  have r22 : (tb0 S b) 22 = S 22 := by funext i; simp [tb0, cpB, tb1, mu]
  have r27 : (tb0 S b) 27 = S 27 := by funext i; simp [tb0, cpB, tb1, mu]
  have r28 : (tb0 S b) 28 = S 28 := by funext i; simp [tb0, cpB, tb1, mu]
  have r29 : (tb0 S b) 29 = S 29 := by funext i; simp [tb0, cpB, tb1, mu]
  have r31 : (tb0 S b) 31 = S 31 := by funext i; simp [tb0, cpB, tb1, mu]
  have r35 : (tb0 S b) 35 = S 35 := by funext i; simp [tb0, cpB, tb1, mu]
  have r36 : (tb0 S b) 36 = S 36 := by funext i; simp [tb0, cpB, tb1, mu]
  have r37 : (tb0 S b) 37 = S 37 := by funext i; simp [tb0, cpB, tb1, mu]
  have r38 : (tb0 S b) 38 = S 38 := by funext i; simp [tb0, cpB, tb1, mu]
  have r39 : (tb0 S b) 39 = S 39 := by funext i; simp [tb0, cpB, tb1, mu]
  have r41 : (tb0 S b) 41 = S 41 := by funext i; simp [tb0, cpB, tb1, mu]
  have c1 : (tt0 C a k m w e) 1 = C 1 := by funext i; simp [tt0, tbS, mu]
  have c3 : (tt0 C a k m w e) 3 = C 3 := by funext i; simp [tt0, tbS, mu]
  have c4 : (tt0 C a k m w e) 4 = C 4 := by funext i; simp [tt0, tbS, mu]
  have c5 : (tt0 C a k m w e) 5 = C 5 := by funext i; simp [tt0, tbS, mu]
  have c9 : (tt0 C a k m w e) 9 = C 9 := by funext i; simp [tt0, tbS, mu]
  have c10 : (tt0 C a k m w e) 10 = C 10 := by funext i; simp [tt0, tbS, mu]
  have c11 : (tt0 C a k m w e) 11 = C 11 := by funext i; simp [tt0, tbS, mu]
  have c12 : (tt0 C a k m w e) 12 = C 12 := by funext i; simp [tt0, tbS, mu]
  have c15 : (tt0 C a k m w e) 15 = C 15 := by funext i; simp [tt0, tbS, mu]
  have c16 : (tt0 C a k m w e) 16 = C 16 := by funext i; simp [tt0, tbS, mu]
  have c17 : (tt0 C a k m w e) 17 = C 17 := by funext i; simp [tt0, tbS, mu]
  have c18 : (tt0 C a k m w e) 18 = C 18 := by funext i; simp [tt0, tbS, mu]
  have c22 : (tt0 C a k m w e) 22 = C 22 := by funext i; simp [tt0, tbS, mu]
  have c23 : (tt0 C a k m w e) 23 = C 23 := by funext i; simp [tt0, tbS, mu]
  have c27 : (tt0 C a k m w e) 27 = C 27 := by funext i; simp [tt0, tbS, mu]
  have c28 : (tt0 C a k m w e) 28 = C 28 := by funext i; simp [tt0, tbS, mu]
  have c34 : (tt0 C a k m w e) 34 = C 34 := by funext i; simp [tt0, tbS, mu]
  have c35 : (tt0 C a k m w e) 35 = C 35 := by funext i; simp [tt0, tbS, mu]
  have c36 : (tt0 C a k m w e) 36 = C 36 := by funext i; simp [tt0, tbS, mu]
  have c37 : (tt0 C a k m w e) 37 = C 37 := by funext i; simp [tt0, tbS, mu]
  have c38 : (tt0 C a k m w e) 38 = C 38 := by funext i; simp [tt0, tbS, mu]
  have c50 : (tt0 C a k m w e) 50 = C 50 := by funext i; simp [tt0, tbS, mu]
  have c51 : (tt0 C a k m w e) 51 = C 51 := by funext i; simp [tt0, tbS, mu]
  have c52 : (tt0 C a k m w e) 52 = C 52 := by funext i; simp [tt0, tbS, mu]
  have c53 : (tt0 C a k m w e) 53 = C 53 := by funext i; simp [tt0, tbS, mu]
  have c57 : (tt0 C a k m w e) 57 = C 57 := by funext i; simp [tt0, tbS, mu]
  have c58 : (tt0 C a k m w e) 58 = C 58 := by funext i; simp [tt0, tbS, mu]
  have c59 : (tt0 C a k m w e) 59 = C 59 := by funext i; simp [tt0, tbS, mu]
  have c60 : (tt0 C a k m w e) 60 = C 60 := by funext i; simp [tt0, tbS, mu]
  have c62 : (tt0 C a k m w e) 62 = C 62 := by funext i; simp [tt0, tbS, mu]
  have c63 : (tt0 C a k m w e) 63 = C 63 := by funext i; simp [tt0, tbS, mu]
  have c64 : (tt0 C a k m w e) 64 = C 64 := by funext i; simp [tt0, tbS, mu]
  have c65 : (tt0 C a k m w e) 65 = C 65 := by funext i; simp [tt0, tbS, mu]
  have c66 : (tt0 C a k m w e) 66 = C 66 := by funext i; simp [tt0, tbS, mu]
  have c67 : (tt0 C a k m w e) 67 = C 67 := by funext i; simp [tt0, tbS, mu]
  have c68 : (tt0 C a k m w e) 68 = C 68 := by funext i; simp [tt0, tbS, mu]
  refine ⟨?_, ?_, ?_, ?_, ?_, ?_, ?_, ?_, ?_, ?_⟩
  · exact M1_rows r2 r27 c1 c5 c34 c60 c27 rfl rfl rfl M1
  · intro x hx
    have g := MG x hx
    have e23 : (tb0 S b) 23 x = S 23 x := by
      have : x ≠ 8 + b := by omega
      simp [tb0, cpB, tb1, mu, this]
    rw [r3, r9, r10, r15, r16, r17, r18, r22, r28, c3, c9, c10, c15, c16, c17, c18, c22, c23, c28, e23]
    exact g
  · exact ME_rows r13 r14 r19 c50 c51 ME
  · intro x hx
    have g := MC x hx
    have n21 : N (tb0 S b) 21 x = N S 21 x := by simp only [N, r21]
    have en : chn (tb0 S b) x = chn S x := by show N (tb0 S b) 21 x + (if (tb0 S b) 19 x = -1 then 0 else 1) = _; rw [n21, r19]
    have ed : ∀ j, chd (tb0 S b) x j = chd S x j := fun j => by show (if j < N (tb0 S b) 21 x then (tb0 S b) 20 (8 * x + j) else (tb0 S b) 19 x) = _; rw [n21, r19, r20]
    have f23 : ∀ y, (tb0 S b) 23 y = if y = 8 + b then S 38 20 else S 23 y := fun y => by simp [tb0, cpB, tb1, mu]
    have f25 : ∀ y, (tb0 S b) 25 y = if y = 8 + b then S 39 20 else S 25 y := fun y => by simp [tb0, cpB, tb1, mu]
    have f26 : ∀ y, (tb0 S b) 26 y = if 2048 + 256 * b ≤ y ∧ y < 2048 + 256 * b + N S 39 20 then S 41 (5120 + (y - (2048 + 256 * b))) else S 26 y := fun y => by simp [tb0, cpB, tb1, mu]
    have d54 : ∀ y, (tt0 C a k m w e) 54 y = if y = 8 * a + k then m else C 54 y := fun y => by simp [tt0, tbS, mu]
    have d55 : ∀ y, (tt0 C a k m w e) 55 y = if y = 8 * a + k then w else C 55 y := fun y => by simp [tt0, tbS, mu]
    have d56 : ∀ y, (tt0 C a k m w e) 56 y = if 256 * (8 * a + k) ≤ y ∧ y < 256 * (8 * a + k) + 256 then e (y - 256 * (8 * a + k)) else C 56 y := fun y => by simp [tt0, tbS, mu]
    rw [en, c52, c53]
    refine ⟨g.1, g.2.1, fun j hj => ?_⟩
    have gj := g.2.2 j hj
    rw [ed, d54, d55]
    obtain ⟨c, hc, ec⟩ := hcn x j hx hj
    rw [ec, nI_clamp (by omega)] at gj ⊢
    have h7x := h7 x hx
    have h7a := h7 a ha
    have hj8 : j < 8 := by
      have : j < N S 21 x + (if S 19 x = -1 then 0 else 1) := hj
      split at this <;> omega
    have hk8 : k < 8 := by
      have : k < N S 21 a + (if S 19 a = -1 then 0 else 1) := hk
      split at this <;> omega
    by_cases z : c = b
    · obtain ⟨z1, z2⟩ := huq x j hx hj (by rw [ec, z])
      have m0' : (tb0 S b) 23 (8 + b) ≠ 0 := by rw [f23, if_pos rfl, ← hm]; exact hm0
      rw [z, if_pos (by rw [z1, z2]), if_pos (by rw [z1, z2]), if_neg m0', f23, f25, if_pos rfl, if_pos rfl]
      refine ⟨by rw [← z]; exact gj.1, hm, hw, fun _ q hq => ?_⟩
      have hq' : q < N S 39 20 := by
        have : q < ((tb0 S b) 25 (8 + b)).toNatClampNeg := hq
        rw [f25, if_pos rfl] at this; exact this
      rw [d56, z1, z2, if_pos (by omega), f26, if_pos (by omega), show 256 * (8 * a + k) + q - 256 * (8 * a + k) = q by omega, he q hq', show 256 * (8 + b) + q - (2048 + 256 * b) = q by omega]
    · have nj : ¬ (8 * x + j = 8 * a + k) := fun y => by
        have y1 : x = a := by omega
        have y2 : j = k := by omega
        rw [y1, y2, hck] at ec
        exact z (nI_inj (by omega) (by omega) ec.symm)
      have e23 : (tb0 S b) 23 (8 + c) = S 23 (8 + c) := by rw [f23, if_neg (by omega)]
      have e25 : (tb0 S b) 25 (8 + c) = S 25 (8 + c) := by rw [f25, if_neg (by omega)]
      rw [if_neg nj, if_neg nj, e23, e25]
      refine ⟨gj.1, gj.2.1, gj.2.2.1, fun y q hq => ?_⟩
      have hq' : q < N S 25 (8 + c) := by
        have : q < ((tb0 S b) 25 (8 + c)).toNatClampNeg := hq
        rw [e25] at this; exact this
      have w2 := h25 c hc y
      rw [d56, if_neg (by omega), f26, if_neg (by omega)]
      exact gj.2.2.2 y q hq'
  · intro x hx
    have g := MT x hx
    have e23 : (tb0 S b) 23 x = S 23 x := by
      have : x ≠ 8 + b := by omega
      simp [tb0, cpB, tb1, mu, this]
    have e25 : (tb0 S b) 25 x = S 25 x := by
      have : x ≠ 8 + b := by omega
      simp [tb0, cpB, tb1, mu, this]
    have f26 : ∀ y, (tb0 S b) 26 y = if 2048 + 256 * b ≤ y ∧ y < 2048 + 256 * b + N S 39 20 then S 41 (5120 + (y - (2048 + 256 * b))) else S 26 y := fun y => by simp [tb0, cpB, tb1, mu]
    rw [c57, c58, e23, e25]
    refine ⟨g.1, fun y i hi => ?_⟩
    have hi' : i < N S 25 x := by
      have : i < ((tb0 S b) 25 x).toNatClampNeg := hi
      rw [e25] at this; exact this
    have w2 := h25a x hx y
    rw [f26, if_neg (by omega)]
    exact g.2 y i hi'
  · exact MK_rows r28 r31 c59 c66 MK
  · exact MO_rows r4 c4 MO
  · exact MP_rows r6 r7 r8 c62 c63 c64 MP
  · exact MQ_rows r10 r11 r12 r29 c11 c12 c65 (fun _ => rfl) MQ
  · exact ML_rows r35 r36 r37 r38 r39 r41 c35 c36 c37 c38 c67 c68 ML
theorem BI_dlv {b r : Nat} (hb : b < 8) (hr : r ≤ T) (hm : S 38 20 = nI r) (hw2 : N S 39 20 ≤ 256) (he : ∀ i, i < N S 39 20 → S 41 (5120 + i) = nI (S 41 (5120 + i)).toNatClampNeg ∧ (S 41 (5120 + i)).toNatClampNeg ≤ 1048576) (B : BI S n np nl T) : BI (tb0 S b) n np nl T := by
  obtain ⟨⟨b1, b2, b3, b4, b5, b6, b7⟩, B3, B2, BP, B4, B8, B26, B9, BN, BA, BC, BT⟩ := B
  have r1 : (tb0 S b) 1 = S 1 := by funext i; simp [tb0, cpB, tb1, mu]
  have r2 : (tb0 S b) 2 = S 2 := by funext i; simp [tb0, cpB, tb1, mu]
  have r3 : (tb0 S b) 3 = S 3 := by funext i; simp [tb0, cpB, tb1, mu]
  have r4 : (tb0 S b) 4 = S 4 := by funext i; simp [tb0, cpB, tb1, mu]
  have r5 : (tb0 S b) 5 = S 5 := by funext i; simp [tb0, cpB, tb1, mu]
  have r6 : (tb0 S b) 6 = S 6 := by funext i; simp [tb0, cpB, tb1, mu]
  have r7 : (tb0 S b) 7 = S 7 := by funext i; simp [tb0, cpB, tb1, mu]
  have r8 : (tb0 S b) 8 = S 8 := by funext i; simp [tb0, cpB, tb1, mu]
  have r9 : (tb0 S b) 9 = S 9 := by funext i; simp [tb0, cpB, tb1, mu]
  have r12 : (tb0 S b) 12 = S 12 := by funext i; simp [tb0, cpB, tb1, mu]
  have r13 : (tb0 S b) 13 = S 13 := by funext i; simp [tb0, cpB, tb1, mu]
  have r14 : (tb0 S b) 14 = S 14 := by funext i; simp [tb0, cpB, tb1, mu]
  have r15 : (tb0 S b) 15 = S 15 := by funext i; simp [tb0, cpB, tb1, mu]
  have r16 : (tb0 S b) 16 = S 16 := by funext i; simp [tb0, cpB, tb1, mu]
  have r19 : (tb0 S b) 19 = S 19 := by funext i; simp [tb0, cpB, tb1, mu]
  have r20 : (tb0 S b) 20 = S 20 := by funext i; simp [tb0, cpB, tb1, mu]
  have r21 : (tb0 S b) 21 = S 21 := by funext i; simp [tb0, cpB, tb1, mu]
  have r28 : (tb0 S b) 28 = S 28 := by funext i; simp [tb0, cpB, tb1, mu]
  have r29 : (tb0 S b) 29 = S 29 := by funext i; simp [tb0, cpB, tb1, mu]
  have r34 : (tb0 S b) 34 = S 34 := by funext i; simp [tb0, cpB, tb1, mu]
  refine ⟨⟨by rw [r1]; exact b1, b2, by rw [r5]; exact b3, b4, by rw [r34]; exact b5, b6, by rw [r2]; exact b7⟩, ?_, ?_, ?_, ?_, ?_, ?_, ?_, ?_, ?_, ?_, BT⟩
  · simp only [nn, N]; rw [r3]; exact B3
  · simp only [N]; rw [r3]; exact B2
  · simp only [vnb]; rw [r6, r7, r9]; exact BP
  · simp only [nn, N]; rw [r4]; exact B4
  · simp only [nn, N]; rw [r8]; exact B8
  · intro i hi
    have f26 : (tb0 S b) 26 i = if 2048 + 256 * b ≤ i ∧ i < 2048 + 256 * b + N S 39 20 then S 41 (5120 + (i - (2048 + 256 * b))) else S 26 i := by simp [tb0, cpB, tb1, mu]
    unfold nn N; rw [f26]
    split
    · rename_i q; exact he _ (by omega)
    · exact B26 i hi
  · rw [r9]; exact B9
  · simp only [vnb]; rw [r9]; exact BN
  · intro x hx
    have g := BA x hx
    have f23 : ∀ y, (tb0 S b) 23 y = if y = 8 + b then S 38 20 else S 23 y := fun y => by simp [tb0, cpB, tb1, mu]
    simp only [nn, N]
    rw [r12, r13, r14, r15, r16, r19, r21, r28, r29, f23, f23, if_neg (by omega)]
    refine ⟨g.1, g.2.1, g.2.2.1, g.2.2.2.1, g.2.2.2.2.1, g.2.2.2.2.2.1, g.2.2.2.2.2.2.1, g.2.2.2.2.2.2.2.1, g.2.2.2.2.2.2.2.2.1, g.2.2.2.2.2.2.2.2.2.1, ?_⟩
    split
    · rw [hm, nI_clamp (by omega)]; exact ⟨rfl, hr⟩
    · exact g.2.2.2.2.2.2.2.2.2.2
  · simp only [N]; rw [r20, r21]; exact BC
theorem SIM_make (h8 : n ≤ 8) {D : mS} {a cc z w : Nat} {r : Int32} {t : Nat → Int32} {hx : Nat} (ha : a < n) (hD : ∀ j, j ≠ 32 → D j = C j) (hr0 : r ≠ 0) (hw2 : w ≤ 256) (h25 : ∀ x, x < n → S 23 x ≠ 0 → N S 25 x ≤ 256) (hcn : ∀ x j, x < n → j < chn S x → ∃ c, c < n ∧ chd S x j = nI c) (ht : ∀ i, i < w → t i = un (nI (tabN S a np cc z i))) (M : SIM S C n np nl sz hx) : SIM (mkS S a r np cc z w) (mtC D a w r t) n np nl (sz) hx := by
  obtain ⟨M1, MG, ME, MC, MT, MK, MO, MP, MQ, ML⟩ := M
  have r2 : (mkS S a r np cc z w) 2 = S 2 := mkS_row (by decide) (by decide) (by decide) (by decide) (by decide) (by decide) (by decide)
  have r3 : (mkS S a r np cc z w) 3 = S 3 := mkS_row (by decide) (by decide) (by decide) (by decide) (by decide) (by decide) (by decide)
  have r4 : (mkS S a r np cc z w) 4 = S 4 := mkS_row (by decide) (by decide) (by decide) (by decide) (by decide) (by decide) (by decide)
  have r6 : (mkS S a r np cc z w) 6 = S 6 := mkS_row (by decide) (by decide) (by decide) (by decide) (by decide) (by decide) (by decide)
  have r7 : (mkS S a r np cc z w) 7 = S 7 := mkS_row (by decide) (by decide) (by decide) (by decide) (by decide) (by decide) (by decide)
  have r8 : (mkS S a r np cc z w) 8 = S 8 := mkS_row (by decide) (by decide) (by decide) (by decide) (by decide) (by decide) (by decide)
  have r9 : (mkS S a r np cc z w) 9 = S 9 := mkS_row (by decide) (by decide) (by decide) (by decide) (by decide) (by decide) (by decide)
  have r10 : (mkS S a r np cc z w) 10 = S 10 := mkS_row (by decide) (by decide) (by decide) (by decide) (by decide) (by decide) (by decide)
  have r11 : (mkS S a r np cc z w) 11 = S 11 := mkS_row (by decide) (by decide) (by decide) (by decide) (by decide) (by decide) (by decide)
  have r12 : (mkS S a r np cc z w) 12 = S 12 := mkS_row (by decide) (by decide) (by decide) (by decide) (by decide) (by decide) (by decide)
  have r13 : (mkS S a r np cc z w) 13 = S 13 := mkS_row (by decide) (by decide) (by decide) (by decide) (by decide) (by decide) (by decide)
  have r14 : (mkS S a r np cc z w) 14 = S 14 := mkS_row (by decide) (by decide) (by decide) (by decide) (by decide) (by decide) (by decide)
  have r15 : (mkS S a r np cc z w) 15 = S 15 := mkS_row (by decide) (by decide) (by decide) (by decide) (by decide) (by decide) (by decide)
  have r16 : (mkS S a r np cc z w) 16 = S 16 := mkS_row (by decide) (by decide) (by decide) (by decide) (by decide) (by decide) (by decide)
  have r17 : (mkS S a r np cc z w) 17 = S 17 := mkS_row (by decide) (by decide) (by decide) (by decide) (by decide) (by decide) (by decide)
  have r18 : (mkS S a r np cc z w) 18 = S 18 := mkS_row (by decide) (by decide) (by decide) (by decide) (by decide) (by decide) (by decide)
  have r19 : (mkS S a r np cc z w) 19 = S 19 := mkS_row (by decide) (by decide) (by decide) (by decide) (by decide) (by decide) (by decide)
  have r20 : (mkS S a r np cc z w) 20 = S 20 := mkS_row (by decide) (by decide) (by decide) (by decide) (by decide) (by decide) (by decide)
  have r21 : (mkS S a r np cc z w) 21 = S 21 := mkS_row (by decide) (by decide) (by decide) (by decide) (by decide) (by decide) (by decide)
  have r22 : (mkS S a r np cc z w) 22 = S 22 := mkS_row (by decide) (by decide) (by decide) (by decide) (by decide) (by decide) (by decide)
  have r28 : (mkS S a r np cc z w) 28 = S 28 := mkS_row (by decide) (by decide) (by decide) (by decide) (by decide) (by decide) (by decide)
  have r29 : (mkS S a r np cc z w) 29 = S 29 := mkS_row (by decide) (by decide) (by decide) (by decide) (by decide) (by decide) (by decide)
  have r31 : (mkS S a r np cc z w) 31 = S 31 := mkS_row (by decide) (by decide) (by decide) (by decide) (by decide) (by decide) (by decide)
  have r35 : (mkS S a r np cc z w) 35 = S 35 := mkS_row (by decide) (by decide) (by decide) (by decide) (by decide) (by decide) (by decide)
  have r36 : (mkS S a r np cc z w) 36 = S 36 := mkS_row (by decide) (by decide) (by decide) (by decide) (by decide) (by decide) (by decide)
  have r37 : (mkS S a r np cc z w) 37 = S 37 := mkS_row (by decide) (by decide) (by decide) (by decide) (by decide) (by decide) (by decide)
  have r38 : (mkS S a r np cc z w) 38 = S 38 := mkS_row (by decide) (by decide) (by decide) (by decide) (by decide) (by decide) (by decide)
  have r39 : (mkS S a r np cc z w) 39 = S 39 := mkS_row (by decide) (by decide) (by decide) (by decide) (by decide) (by decide) (by decide)
  have r41 : (mkS S a r np cc z w) 41 = S 41 := mkS_row (by decide) (by decide) (by decide) (by decide) (by decide) (by decide) (by decide)
  have c1 : (mtC D a w r t) 1 = C 1 := by rw [mtC, mu_row (by decide), mu_row (by decide), tbS_row (by decide) (by decide), hD 1 (by decide)]
  have c3 : (mtC D a w r t) 3 = C 3 := by rw [mtC, mu_row (by decide), mu_row (by decide), tbS_row (by decide) (by decide), hD 3 (by decide)]
  have c4 : (mtC D a w r t) 4 = C 4 := by rw [mtC, mu_row (by decide), mu_row (by decide), tbS_row (by decide) (by decide), hD 4 (by decide)]
  have c5 : (mtC D a w r t) 5 = C 5 := by rw [mtC, mu_row (by decide), mu_row (by decide), tbS_row (by decide) (by decide), hD 5 (by decide)]
  have c9 : (mtC D a w r t) 9 = C 9 := by rw [mtC, mu_row (by decide), mu_row (by decide), tbS_row (by decide) (by decide), hD 9 (by decide)]
  have c10 : (mtC D a w r t) 10 = C 10 := by rw [mtC, mu_row (by decide), mu_row (by decide), tbS_row (by decide) (by decide), hD 10 (by decide)]
  have c11 : (mtC D a w r t) 11 = C 11 := by rw [mtC, mu_row (by decide), mu_row (by decide), tbS_row (by decide) (by decide), hD 11 (by decide)]
  have c12 : (mtC D a w r t) 12 = C 12 := by rw [mtC, mu_row (by decide), mu_row (by decide), tbS_row (by decide) (by decide), hD 12 (by decide)]
  have c15 : (mtC D a w r t) 15 = C 15 := by rw [mtC, mu_row (by decide), mu_row (by decide), tbS_row (by decide) (by decide), hD 15 (by decide)]
  have c16 : (mtC D a w r t) 16 = C 16 := by rw [mtC, mu_row (by decide), mu_row (by decide), tbS_row (by decide) (by decide), hD 16 (by decide)]
  have c17 : (mtC D a w r t) 17 = C 17 := by rw [mtC, mu_row (by decide), mu_row (by decide), tbS_row (by decide) (by decide), hD 17 (by decide)]
  have c18 : (mtC D a w r t) 18 = C 18 := by rw [mtC, mu_row (by decide), mu_row (by decide), tbS_row (by decide) (by decide), hD 18 (by decide)]
  have c22 : (mtC D a w r t) 22 = C 22 := by rw [mtC, mu_row (by decide), mu_row (by decide), tbS_row (by decide) (by decide), hD 22 (by decide)]
  have c28 : (mtC D a w r t) 28 = C 28 := by rw [mtC, mu_row (by decide), mu_row (by decide), tbS_row (by decide) (by decide), hD 28 (by decide)]
  have c34 : (mtC D a w r t) 34 = C 34 := by rw [mtC, mu_row (by decide), mu_row (by decide), tbS_row (by decide) (by decide), hD 34 (by decide)]
  have c35 : (mtC D a w r t) 35 = C 35 := by rw [mtC, mu_row (by decide), mu_row (by decide), tbS_row (by decide) (by decide), hD 35 (by decide)]
  have c36 : (mtC D a w r t) 36 = C 36 := by rw [mtC, mu_row (by decide), mu_row (by decide), tbS_row (by decide) (by decide), hD 36 (by decide)]
  have c37 : (mtC D a w r t) 37 = C 37 := by rw [mtC, mu_row (by decide), mu_row (by decide), tbS_row (by decide) (by decide), hD 37 (by decide)]
  have c38 : (mtC D a w r t) 38 = C 38 := by rw [mtC, mu_row (by decide), mu_row (by decide), tbS_row (by decide) (by decide), hD 38 (by decide)]
  have c50 : (mtC D a w r t) 50 = C 50 := by rw [mtC, mu_row (by decide), mu_row (by decide), tbS_row (by decide) (by decide), hD 50 (by decide)]
  have c51 : (mtC D a w r t) 51 = C 51 := by rw [mtC, mu_row (by decide), mu_row (by decide), tbS_row (by decide) (by decide), hD 51 (by decide)]
  have c52 : (mtC D a w r t) 52 = C 52 := by rw [mtC, mu_row (by decide), mu_row (by decide), tbS_row (by decide) (by decide), hD 52 (by decide)]
  have c53 : (mtC D a w r t) 53 = C 53 := by rw [mtC, mu_row (by decide), mu_row (by decide), tbS_row (by decide) (by decide), hD 53 (by decide)]
  have c54 : (mtC D a w r t) 54 = C 54 := by rw [mtC, mu_row (by decide), mu_row (by decide), tbS_row (by decide) (by decide), hD 54 (by decide)]
  have c55 : (mtC D a w r t) 55 = C 55 := by rw [mtC, mu_row (by decide), mu_row (by decide), tbS_row (by decide) (by decide), hD 55 (by decide)]
  have c56 : (mtC D a w r t) 56 = C 56 := by rw [mtC, mu_row (by decide), mu_row (by decide), tbS_row (by decide) (by decide), hD 56 (by decide)]
  have c59 : (mtC D a w r t) 59 = C 59 := by rw [mtC, mu_row (by decide), mu_row (by decide), tbS_row (by decide) (by decide), hD 59 (by decide)]
  have c60 : (mtC D a w r t) 60 = C 60 := by rw [mtC, mu_row (by decide), mu_row (by decide), tbS_row (by decide) (by decide), hD 60 (by decide)]
  have c62 : (mtC D a w r t) 62 = C 62 := by rw [mtC, mu_row (by decide), mu_row (by decide), tbS_row (by decide) (by decide), hD 62 (by decide)]
  have c63 : (mtC D a w r t) 63 = C 63 := by rw [mtC, mu_row (by decide), mu_row (by decide), tbS_row (by decide) (by decide), hD 63 (by decide)]
  have c64 : (mtC D a w r t) 64 = C 64 := by rw [mtC, mu_row (by decide), mu_row (by decide), tbS_row (by decide) (by decide), hD 64 (by decide)]
  have c65 : (mtC D a w r t) 65 = C 65 := by rw [mtC, mu_row (by decide), mu_row (by decide), tbS_row (by decide) (by decide), hD 65 (by decide)]
  have c66 : (mtC D a w r t) 66 = C 66 := by rw [mtC, mu_row (by decide), mu_row (by decide), tbS_row (by decide) (by decide), hD 66 (by decide)]
  have c67 : (mtC D a w r t) 67 = C 67 := by rw [mtC, mu_row (by decide), mu_row (by decide), tbS_row (by decide) (by decide), hD 67 (by decide)]
  have c68 : (mtC D a w r t) 68 = C 68 := by rw [mtC, mu_row (by decide), mu_row (by decide), tbS_row (by decide) (by decide), hD 68 (by decide)]
  refine ⟨?_, ?_, ?_, ?_, ?_, ?_, ?_, ?_, ?_, ?_⟩
  · obtain ⟨m1, m2, m3, m4, m5, m6, m7, m8⟩ := M1
    have e27 : (mkS S a r np cc z w) 27 0 = S 27 0 + 1 := by simp [mkS, mu]
    have d27 : (mtC D a w r t) 27 0 = D 27 0 + 1 := by simp [mu]
    exact ⟨by rw [c1]; exact m1, by rw [c5]; exact m2, by rw [c34]; exact m3, by rw [c60, r2]; exact m4, by rw [e27, d27, hD 27 (by decide), m5], m6, m7, m8⟩
  · intro x hx
    have g := MG x hx
    have f23 : (mkS S a r np cc z w) 23 x = if x = a then r else S 23 x := by simp [mkS, mkT, mk1, mkC, rsR, mu]
    have d23 : (mtC D a w r t) 23 x = if x = a then r else C 23 x := by
      rw [← hD 23 (by decide)]; simp [mu, tbS]
    rw [r3, r9, r10, r15, r16, r17, r18, r22, r28, c3, c9, c10, c15, c16, c17, c18, c22, c28, f23, d23, g.2.2.2.2.2.2.2.2.1]
    exact ⟨g.1, g.2.1, g.2.2.1, g.2.2.2.1, g.2.2.2.2.1, g.2.2.2.2.2.1, g.2.2.2.2.2.2.1, g.2.2.2.2.2.2.2.1, rfl, g.2.2.2.2.2.2.2.2.2⟩
  · exact ME_rows r13 r14 r19 c50 c51 ME
  · intro x hx
    have g := MC x hx
    have n21 : N (mkS S a r np cc z w) 21 x = N S 21 x := by simp only [N, r21]
    have en : chn (mkS S a r np cc z w) x = chn S x := by show N (mkS S a r np cc z w) 21 x + (if (mkS S a r np cc z w) 19 x = -1 then 0 else 1) = _; rw [n21, r19]
    have ed : ∀ j, chd (mkS S a r np cc z w) x j = chd S x j := fun j => by show (if j < N (mkS S a r np cc z w) 21 x then (mkS S a r np cc z w) 20 (8 * x + j) else (mkS S a r np cc z w) 19 x) = _; rw [n21, r19, r20]
    rw [en, c52, c53, c54, c55, c56]
    refine ⟨g.1, g.2.1, fun j hj => ?_⟩
    have gj := g.2.2 j hj
    obtain ⟨c, hc, ec⟩ := hcn x j hx hj
    rw [ed, ec, nI_clamp (by omega)]
    rw [ec, nI_clamp (by omega)] at gj
    have e23 : (mkS S a r np cc z w) 23 (8 + c) = S 23 (8 + c) := by
      have : 8 + c ≠ a := by omega
      simp [mkS, mkT, mk1, mkC, rsR, mu, this]
    have e25 : (mkS S a r np cc z w) 25 (8 + c) = S 25 (8 + c) := by
      have : 8 + c ≠ a := by omega
      simp [mkS, mkT, mk1, mkC, rsR, mu, this]
    have e26 : ∀ q, (mkS S a r np cc z w) 26 (256 * (8 + c) + q) = S 26 (256 * (8 + c) + q) := fun q => by rw [mkS_26, if_neg (by omega)]
    have n25 : N (mkS S a r np cc z w) 25 (8 + c) = N S 25 (8 + c) := by simp only [N, e25]
    rw [e23, e25, n25]
    simp only [e26]
    exact gj
  · intro x hx
    have g := MT x hx
    have f23 : (mkS S a r np cc z w) 23 x = if x = a then r else S 23 x := by simp [mkS, mkT, mk1, mkC, rsR, mu]
    have f25 : (mkS S a r np cc z w) 25 x = if x = a then nI w else S 25 x := by simp [mkS, mkT, mk1, mkC, rsR, mu]
    have d57 : (mtC D a w r t) 57 x = if x = a then nI w else C 57 x := by
      rw [← hD 57 (by decide)]; simp [mu, tbS]
    have d58 : ∀ y, (mtC D a w r t) 58 y = if 256 * a ≤ y ∧ y < 256 * a + 256 then t (y - 256 * a) else C 58 y := fun y => by
      rw [← hD 58 (by decide)]; simp [mu, tbS]
    rw [f23, f25, d57]
    by_cases q : x = a
    · rw [if_pos q, if_pos q, if_pos q, if_neg hr0]
      refine ⟨rfl, fun _ i hi => ?_⟩
      have hi' : i < w := by
        have : i < ((mkS S a r np cc z w) 25 x).toNatClampNeg := hi
        rw [f25, if_pos q, nI_clamp (by omega)] at this; exact this
      rw [d58, q, if_pos (by omega), mkS_26, if_pos (by omega), show 256 * a + i - 256 * a = i by omega]
      exact ht i hi'
    · rw [if_neg q, if_neg q, if_neg q]
      refine ⟨g.1, fun y i hi => ?_⟩
      have hi' : i < N S 25 x := by
        have : i < ((mkS S a r np cc z w) 25 x).toNatClampNeg := hi
        rw [f25, if_neg q] at this; exact this
      have w2 := h25 x hx y
      rw [d58, if_neg (by omega), mkS_26, if_neg (by omega)]
      exact g.2 y i hi'
  · exact MK_rows r28 r31 c59 c66 MK
  · exact MO_rows r4 c4 MO
  · exact MP_rows r6 r7 r8 c62 c63 c64 MP
  · exact MQ_rows r10 r11 r12 r29 c11 c12 c65 (fun _ => rfl) MQ
  · exact ML_rows r35 r36 r37 r38 r39 r41 c35 c36 c37 c38 c67 c68 ML
theorem BI_make {a cc z w r : Nat} (ha : a < 8) (hr : r ≤ T) (hw2 : w ≤ 256) (B : BI S n np nl T) : BI (mkS S a (nI r) np cc z w) n np nl T := by
  obtain ⟨⟨b1, b2, b3, b4, b5, b6, b7⟩, B3, B2, BP, B4, B8, B26, B9, BN, BA, BC, BT⟩ := B
  have r1 : (mkS S a (nI r) np cc z w) 1 = S 1 := mkS_row (by decide) (by decide) (by decide) (by decide) (by decide) (by decide) (by decide)
  have r2 : (mkS S a (nI r) np cc z w) 2 = S 2 := mkS_row (by decide) (by decide) (by decide) (by decide) (by decide) (by decide) (by decide)
  have r3 : (mkS S a (nI r) np cc z w) 3 = S 3 := mkS_row (by decide) (by decide) (by decide) (by decide) (by decide) (by decide) (by decide)
  have r4 : (mkS S a (nI r) np cc z w) 4 = S 4 := mkS_row (by decide) (by decide) (by decide) (by decide) (by decide) (by decide) (by decide)
  have r5 : (mkS S a (nI r) np cc z w) 5 = S 5 := mkS_row (by decide) (by decide) (by decide) (by decide) (by decide) (by decide) (by decide)
  have r6 : (mkS S a (nI r) np cc z w) 6 = S 6 := mkS_row (by decide) (by decide) (by decide) (by decide) (by decide) (by decide) (by decide)
  have r7 : (mkS S a (nI r) np cc z w) 7 = S 7 := mkS_row (by decide) (by decide) (by decide) (by decide) (by decide) (by decide) (by decide)
  have r8 : (mkS S a (nI r) np cc z w) 8 = S 8 := mkS_row (by decide) (by decide) (by decide) (by decide) (by decide) (by decide) (by decide)
  have r9 : (mkS S a (nI r) np cc z w) 9 = S 9 := mkS_row (by decide) (by decide) (by decide) (by decide) (by decide) (by decide) (by decide)
  have r12 : (mkS S a (nI r) np cc z w) 12 = S 12 := mkS_row (by decide) (by decide) (by decide) (by decide) (by decide) (by decide) (by decide)
  have r13 : (mkS S a (nI r) np cc z w) 13 = S 13 := mkS_row (by decide) (by decide) (by decide) (by decide) (by decide) (by decide) (by decide)
  have r14 : (mkS S a (nI r) np cc z w) 14 = S 14 := mkS_row (by decide) (by decide) (by decide) (by decide) (by decide) (by decide) (by decide)
  have r15 : (mkS S a (nI r) np cc z w) 15 = S 15 := mkS_row (by decide) (by decide) (by decide) (by decide) (by decide) (by decide) (by decide)
  have r16 : (mkS S a (nI r) np cc z w) 16 = S 16 := mkS_row (by decide) (by decide) (by decide) (by decide) (by decide) (by decide) (by decide)
  have r19 : (mkS S a (nI r) np cc z w) 19 = S 19 := mkS_row (by decide) (by decide) (by decide) (by decide) (by decide) (by decide) (by decide)
  have r20 : (mkS S a (nI r) np cc z w) 20 = S 20 := mkS_row (by decide) (by decide) (by decide) (by decide) (by decide) (by decide) (by decide)
  have r21 : (mkS S a (nI r) np cc z w) 21 = S 21 := mkS_row (by decide) (by decide) (by decide) (by decide) (by decide) (by decide) (by decide)
  have r28 : (mkS S a (nI r) np cc z w) 28 = S 28 := mkS_row (by decide) (by decide) (by decide) (by decide) (by decide) (by decide) (by decide)
  have r29 : (mkS S a (nI r) np cc z w) 29 = S 29 := mkS_row (by decide) (by decide) (by decide) (by decide) (by decide) (by decide) (by decide)
  have r34 : (mkS S a (nI r) np cc z w) 34 = S 34 := mkS_row (by decide) (by decide) (by decide) (by decide) (by decide) (by decide) (by decide)
  refine ⟨⟨by rw [r1]; exact b1, b2, by rw [r5]; exact b3, b4, by rw [r34]; exact b5, b6, by rw [r2]; exact b7⟩, ?_, ?_, ?_, ?_, ?_, ?_, ?_, ?_, ?_, ?_, BT⟩
  · simp only [nn, N]; rw [r3]; exact B3
  · simp only [N]; rw [r3]; exact B2
  · simp only [vnb]; rw [r6, r7, r9]; exact BP
  · simp only [nn, N]; rw [r4]; exact B4
  · simp only [nn, N]; rw [r8]; exact B8
  · intro i hi
    unfold nn N; rw [mkS_26]
    split
    · have : tabN S a np cc z (i - 256 * a) ≤ 1048576 := blR_le _ _
      rw [nI_clamp (by omega)]; exact ⟨rfl, this⟩
    · exact B26 i hi
  · rw [r9]; exact B9
  · simp only [vnb]; rw [r9]; exact BN
  · intro x hx
    have g := BA x hx
    have f23 : ∀ y, (mkS S a (nI r) np cc z w) 23 y = if y = a then nI r else S 23 y := fun y => by simp [mkS, mkT, mk1, mkC, rsR, mu]
    simp only [nn, N]
    rw [r12, r13, r14, r15, r16, r19, r21, r28, r29, f23, f23, if_neg (show ¬ 8 + x = a by omega)]
    refine ⟨g.1, g.2.1, g.2.2.1, g.2.2.2.1, g.2.2.2.2.1, g.2.2.2.2.2.1, g.2.2.2.2.2.2.1, g.2.2.2.2.2.2.2.1, g.2.2.2.2.2.2.2.2.1, ?_, g.2.2.2.2.2.2.2.2.2.2⟩
    split
    · rw [nI_clamp (by omega)]; exact ⟨rfl, hr⟩
    · exact g.2.2.2.2.2.2.2.2.2.1
  · simp only [N]; rw [r20, r21]; exact BC
end
