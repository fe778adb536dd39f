/-! SIMULATION S4. Laid by wip/whole/gen/p71.py -/
section
variable {S C : mS} {n np nl T : Nat} {sz : Nat → Nat → Nat} {A : Rl} {dd : Nat → Nat} {hh : Nat → Prop}
theorem SIM_hx (a : Nat) (M : SIM S C n np nl sz 8) (h8 : n ≤ 8) : SIM S C n np nl sz a := by
  obtain ⟨M1, MG, ME, M⟩ := M
  exact ⟨M1, MG, fun x hx => ⟨fun _ => (ME x hx).1 (by omega), (ME x hx).2⟩, M⟩
theorem SIM_wait (h8 : n ≤ 8) {a b : Nat} (ha : a < n) (hb : b < 8) (h13 : S 13 a ≠ 0) (h14 : S 14 a = 0) (h19 : S 19 a = -1) (h23 : S 23 (8 + b) = 0) (h7 : ∀ x, x < n → N S 21 x ≤ 7) (M : SIM S C n np nl sz a) : SIM (mu S 19 a (nI b)) (mu (mu (adC C a (N S 21 a) b) 51 a (nI b)) 50 a 1) n np nl (lu sz 4 a (N S 21 a + 1)) 8 := by
  obtain ⟨M1, MG, ME, MC, MT, MK, MO, MP, MQ, ML⟩ := M
  have r2 : (mu S 19 a (nI b)) 2 = S 2 := by funext i; simp [mu]
  have r3 : (mu S 19 a (nI b)) 3 = S 3 := by funext i; simp [mu]
  have r4 : (mu S 19 a (nI b)) 4 = S 4 := by funext i; simp [mu]
  have r6 : (mu S 19 a (nI b)) 6 = S 6 := by funext i; simp [mu]
  have r7 : (mu S 19 a (nI b)) 7 = S 7 := by funext i; simp [mu]
  have r8 : (mu S 19 a (nI b)) 8 = S 8 := by funext i; simp [mu]
  have r9 : (mu S 19 a (nI b)) 9 = S 9 := by funext i; simp [mu]
  have r10 : (mu S 19 a (nI b)) 10 = S 10 := by funext i; simp [mu]
  have r11 : (mu S 19 a (nI b)) 11 = S 11 := by funext i; simp [mu]
  have r12 : (mu S 19 a (nI b)) 12 = S 12 := by funext i; simp [mu]
  have r13 : (mu S 19 a (nI b)) 13 = S 13 := by funext i; simp [mu]
  have r14 : (mu S 19 a (nI b)) 14 = S 14 := by funext i; simp [mu]
  have r15 : (mu S 19 a (nI b)) 15 = S 15 := by funext i; simp [mu]
  have r16 : (mu S 19 a (nI b)) 16 = S 16 := by funext i; simp [mu]
  have r17 : (mu S 19 a (nI b)) 17 = S 17 := by funext i; simp [mu]
  have r18 : (mu S 19 a (nI b)) 18 = S 18 := by funext i; simp [mu]
  have r20 : (mu S 19 a (nI b)) 20 = S 20 := by funext i; simp [mu]
  have r21 : (mu S 19 a (nI b)) 21 = S 21 := by funext i; simp [mu]
  have r22 : (mu S 19 a (nI b)) 22 = S 22 := by funext i; simp [mu]
  have r23 : (mu S 19 a (nI b)) 23 = S 23 := by funext i; simp [mu]
  have r25 : (mu S 19 a (nI b)) 25 = S 25 := by funext i; simp [mu]
  have r26 : (mu S 19 a (nI b)) 26 = S 26 := by funext i; simp [mu]
  have r27 : (mu S 19 a (nI b)) 27 = S 27 := by funext i; simp [mu]
  have r28 : (mu S 19 a (nI b)) 28 = S 28 := by funext i; simp [mu]
  have r29 : (mu S 19 a (nI b)) 29 = S 29 := by funext i; simp [mu]
  have r31 : (mu S 19 a (nI b)) 31 = S 31 := by funext i; simp [mu]
  have r35 : (mu S 19 a (nI b)) 35 = S 35 := by funext i; simp [mu]
  have r36 : (mu S 19 a (nI b)) 36 = S 36 := by funext i; simp [mu]
  have r37 : (mu S 19 a (nI b)) 37 = S 37 := by funext i; simp [mu]
  have r38 : (mu S 19 a (nI b)) 38 = S 38 := by funext i; simp [mu]
  have r39 : (mu S 19 a (nI b)) 39 = S 39 := by funext i; simp [mu]
  have r41 : (mu S 19 a (nI b)) 41 = S 41 := by funext i; simp [mu]
  have c1 : (mu (mu (adC C a (N S 21 a) b) 51 a (nI b)) 50 a 1) 1 = C 1 := by funext i; simp [adC, mu]
  have c3 : (mu (mu (adC C a (N S 21 a) b) 51 a (nI b)) 50 a 1) 3 = C 3 := by funext i; simp [adC, mu]
  have c4 : (mu (mu (adC C a (N S 21 a) b) 51 a (nI b)) 50 a 1) 4 = C 4 := by funext i; simp [adC, mu]
  have c5 : (mu (mu (adC C a (N S 21 a) b) 51 a (nI b)) 50 a 1) 5 = C 5 := by funext i; simp [adC, mu]
  have c9 : (mu (mu (adC C a (N S 21 a) b) 51 a (nI b)) 50 a 1) 9 = C 9 := by funext i; simp [adC, mu]
  have c10 : (mu (mu (adC C a (N S 21 a) b) 51 a (nI b)) 50 a 1) 10 = C 10 := by funext i; simp [adC, mu]
  have c11 : (mu (mu (adC C a (N S 21 a) b) 51 a (nI b)) 50 a 1) 11 = C 11 := by funext i; simp [adC, mu]
  have c12 : (mu (mu (adC C a (N S 21 a) b) 51 a (nI b)) 50 a 1) 12 = C 12 := by funext i; simp [adC, mu]
  have c15 : (mu (mu (adC C a (N S 21 a) b) 51 a (nI b)) 50 a 1) 15 = C 15 := by funext i; simp [adC, mu]
  have c16 : (mu (mu (adC C a (N S 21 a) b) 51 a (nI b)) 50 a 1) 16 = C 16 := by funext i; simp [adC, mu]
  have c17 : (mu (mu (adC C a (N S 21 a) b) 51 a (nI b)) 50 a 1) 17 = C 17 := by funext i; simp [adC, mu]
  have c18 : (mu (mu (adC C a (N S 21 a) b) 51 a (nI b)) 50 a 1) 18 = C 18 := by funext i; simp [adC, mu]
  have c22 : (mu (mu (adC C a (N S 21 a) b) 51 a (nI b)) 50 a 1) 22 = C 22 := by funext i; simp [adC, mu]
  have c23 : (mu (mu (adC C a (N S 21 a) b) 51 a (nI b)) 50 a 1) 23 = C 23 := by funext i; simp [adC, mu]
  have c27 : (mu (mu (adC C a (N S 21 a) b) 51 a (nI b)) 50 a 1) 27 = C 27 := by funext i; simp [adC, mu]
  have c28 : (mu (mu (adC C a (N S 21 a) b) 51 a (nI b)) 50 a 1) 28 = C 28 := by funext i; simp [adC, mu]
  have c34 : (mu (mu (adC C a (N S 21 a) b) 51 a (nI b)) 50 a 1) 34 = C 34 := by funext i; simp [adC, mu]
  have c35 : (mu (mu (adC C a (N S 21 a) b) 51 a (nI b)) 50 a 1) 35 = C 35 := by funext i; simp [adC, mu]
  have c36 : (mu (mu (adC C a (N S 21 a) b) 51 a (nI b)) 50 a 1) 36 = C 36 := by funext i; simp [adC, mu]
  have c37 : (mu (mu (adC C a (N S 21 a) b) 51 a (nI b)) 50 a 1) 37 = C 37 := by funext i; simp [adC, mu]
  have c38 : (mu (mu (adC C a (N S 21 a) b) 51 a (nI b)) 50 a 1) 38 = C 38 := by funext i; simp [adC, mu]
  have c56 : (mu (mu (adC C a (N S 21 a) b) 51 a (nI b)) 50 a 1) 56 = C 56 := by funext i; simp [adC, mu]
  have c57 : (mu (mu (adC C a (N S 21 a) b) 51 a (nI b)) 50 a 1) 57 = C 57 := by funext i; simp [adC, mu]
  have c58 : (mu (mu (adC C a (N S 21 a) b) 51 a (nI b)) 50 a 1) 58 = C 58 := by funext i; simp [adC, mu]
  have c59 : (mu (mu (adC C a (N S 21 a) b) 51 a (nI b)) 50 a 1) 59 = C 59 := by funext i; simp [adC, mu]
  have c60 : (mu (mu (adC C a (N S 21 a) b) 51 a (nI b)) 50 a 1) 60 = C 60 := by funext i; simp [adC, mu]
  have c62 : (mu (mu (adC C a (N S 21 a) b) 51 a (nI b)) 50 a 1) 62 = C 62 := by funext i; simp [adC, mu]
  have c63 : (mu (mu (adC C a (N S 21 a) b) 51 a (nI b)) 50 a 1) 63 = C 63 := by funext i; simp [adC, mu]
  have c64 : (mu (mu (adC C a (N S 21 a) b) 51 a (nI b)) 50 a 1) 64 = C 64 := by funext i; simp [adC, mu]
  have c65 : (mu (mu (adC C a (N S 21 a) b) 51 a (nI b)) 50 a 1) 65 = C 65 := by funext i; simp [adC, mu]
  have c66 : (mu (mu (adC C a (N S 21 a) b) 51 a (nI b)) 50 a 1) 66 = C 66 := by funext i; simp [adC, mu]
  have c67 : (mu (mu (adC C a (N S 21 a) b) 51 a (nI b)) 50 a 1) 67 = C 67 := by funext i; simp [adC, mu]
  have c68 : (mu (mu (adC C a (N S 21 a) b) 51 a (nI b)) 50 a 1) 68 = C 68 := by funext i; simp [adC, mu]
  refine ⟨?_, ?_, ?_, ?_, ?_, ?_, ?_, ?_, ?_, ?_⟩
  · exact M1_rows r2 r27 c1 c5 c34 c60 c27 rfl rfl rfl M1
  · exact MG_rows r3 r9 r10 r15 r16 r17 r18 r22 r23 r28 c3 c9 c10 c15 c16 c17 c18 c22 c23 c28 MG
  · intro x hx
    have g := ME x hx
    have e19 : (mu S 19 a (nI b)) 19 x = if x = a then nI b else S 19 x := by simp [mu]
    have d50 : (mu (mu (adC C a (N S 21 a) b) 51 a (nI b)) 50 a 1) 50 x = if x = a then 1 else C 50 x := by simp [mu]
    have d51 : (mu (mu (adC C a (N S 21 a) b) 51 a (nI b)) 50 a 1) 51 x = if x = a then nI b else C 51 x := by simp [mu]
    rw [d50, d51, e19]
    by_cases z : x = a
    · rw [if_pos z, if_pos z]
      refine ⟨fun _ => ?_, fun _ => by rw [if_pos z]⟩
      unfold stg; rw [r13, r14, z, if_neg h13, if_pos h14]
    · rw [if_neg z, if_neg z, if_neg z]
      refine ⟨fun _ => ?_, g.2⟩
      unfold stg; rw [r13, r14]; exact g.1 z
  · intro x hx
    have g := MC x hx
    have h7x := h7 x hx
    have h7a := h7 a ha
    have e19 : (mu S 19 a (nI b)) 19 x = if x = a then nI b else S 19 x := by simp [mu]
    have cn : chn S a = N S 21 a := by show N S 21 a + (if S 19 a = -1 then 0 else 1) = _; rw [if_pos h19]; rfl
    have d52 : (mu (mu (adC C a (N S 21 a) b) 51 a (nI b)) 50 a 1) 52 x = if x = a then nI (N S 21 a + 1) else C 52 x := by simp [adC, mu]
    have d53 : ∀ y, (mu (mu (adC C a (N S 21 a) b) 51 a (nI b)) 50 a 1) 53 y = if y = 8 * a + N S 21 a then nI b else C 53 y := fun y => by simp [adC, mu]
    have d54 : ∀ y, (mu (mu (adC C a (N S 21 a) b) 51 a (nI b)) 50 a 1) 54 y = if y = 8 * a + N S 21 a then 0 else C 54 y := fun y => by simp [adC, mu]
    have d55 : ∀ y, (mu (mu (adC C a (N S 21 a) b) 51 a (nI b)) 50 a 1) 55 y = if y = 8 * a + N S 21 a then -1 else C 55 y := fun y => by simp [adC, mu]
    have n21 : N (mu S 19 a (nI b)) 21 x = N S 21 x := by simp only [N, r21]
    by_cases z : x = a
    · have en : chn (mu S 19 a (nI b)) x = N S 21 a + 1 := by
        show N (mu S 19 a (nI b)) 21 x + (if (mu S 19 a (nI b)) 19 x = -1 then 0 else 1) = _
        rw [n21, e19, if_pos z, if_neg (nI_m1' (by omega)), z]
      rw [en, d52, if_pos z]
      refine ⟨rfl, by rw [z]; simp [lu], fun k hk => ?_⟩
      rw [d53, d54, d55, c56]
      by_cases y : k = N S 21 a
      · have ed : chd (mu S 19 a (nI b)) x k = nI b := by
          show (if k < N (mu S 19 a (nI b)) 21 x then (mu S 19 a (nI b)) 20 (8 * x + k) else (mu S 19 a (nI b)) 19 x) = _
          rw [n21, if_neg (by rw [z]; omega), e19, if_pos z]
        rw [if_pos (by omega), if_pos (by omega), if_pos (by omega), ed, nI_clamp (by omega), r23, if_pos h23]
        exact ⟨rfl, h23.symm, rfl, fun q => absurd h23 q⟩
      · have hk' : k < chn S x := by rw [z, cn]; omega
        have ed : chd (mu S 19 a (nI b)) x k = chd S x k := by
          show (if k < N (mu S 19 a (nI b)) 21 x then (mu S 19 a (nI b)) 20 (8 * x + k) else (mu S 19 a (nI b)) 19 x) = (if k < N S 21 x then S 20 (8 * x + k) else S 19 x)
          rw [n21, r20, if_pos (by rw [z]; omega), if_pos (by rw [z]; omega)]
        have gk := g.2.2 k hk'
        rw [if_neg (by omega), if_neg (by omega), if_neg (by omega), ed]
        simp only [N, r23, r25, r26] at gk ⊢
        exact gk
    · have en : chn (mu S 19 a (nI b)) x = chn S x := by
        show N (mu S 19 a (nI b)) 21 x + (if (mu S 19 a (nI b)) 19 x = -1 then 0 else 1) = N S 21 x + (if S 19 x = -1 then 0 else 1)
        rw [n21, e19, if_neg z]
      rw [en, d52, if_neg z]
      refine ⟨g.1, by rw [show lu sz 4 a (N S 21 a + 1) 4 x = sz 4 x from by simp [lu, z]]; exact g.2.1, fun k hk => ?_⟩
      have hk8 : k < 8 := by
        have : k < N S 21 x + (if S 19 x = -1 then 0 else 1) := hk
        split at this <;> omega
      have ed : chd (mu S 19 a (nI b)) x k = chd S x k := by
        show (if k < N (mu S 19 a (nI b)) 21 x then (mu S 19 a (nI b)) 20 (8 * x + k) else (mu S 19 a (nI b)) 19 x) = (if k < N S 21 x then S 20 (8 * x + k) else S 19 x)
        rw [n21, r20, e19, if_neg z]
      have gk := g.2.2 k hk
      rw [d53, d54, d55, c56, if_neg (by omega), if_neg (by omega), if_neg (by omega), ed]
      simp only [N, r23, r25, r26] at gk ⊢
      exact gk
  · exact MT_rows r23 r25 r26 c57 c58 MT
  · exact MK_rows r28 r31 c59 c66 MK
  · exact MO_rows r4 c4 MO
  · exact MP_rows r6 r7 r8 c62 c63 c64 MP
  · exact MQ_rows r10 r11 r12 r29 c11 c12 c65 (fun _ => rfl) MQ
  · exact ML_rows r35 r36 r37 r38 r39 r41 c35 c36 c37 c38 c67 c68 ML
theorem BI_wait {a b : Nat} (hbn : b < n) (B : BI S n np nl T) : BI (mu S 19 a (nI b)) n np nl T := by
  obtain ⟨⟨b1, b2, b3, b4, b5, b6, b7⟩, B3, B2, BP, B4, B8, B26, B9, BN, BA, BC, BT⟩ := B
  have r1 : (mu S 19 a (nI b)) 1 = S 1 := by funext i; simp [mu]
  have r2 : (mu S 19 a (nI b)) 2 = S 2 := by funext i; simp [mu]
  have r3 : (mu S 19 a (nI b)) 3 = S 3 := by funext i; simp [mu]
  have r4 : (mu S 19 a (nI b)) 4 = S 4 := by funext i; simp [mu]
  have r5 : (mu S 19 a (nI b)) 5 = S 5 := by funext i; simp [mu]
  have r6 : (mu S 19 a (nI b)) 6 = S 6 := by funext i; simp [mu]
  have r7 : (mu S 19 a (nI b)) 7 = S 7 := by funext i; simp [mu]
  have r8 : (mu S 19 a (nI b)) 8 = S 8 := by funext i; simp [mu]
  have r9 : (mu S 19 a (nI b)) 9 = S 9 := by funext i; simp [mu]
  have r12 : (mu S 19 a (nI b)) 12 = S 12 := by funext i; simp [mu]
  have r13 : (mu S 19 a (nI b)) 13 = S 13 := by funext i; simp [mu]
  have r14 : (mu S 19 a (nI b)) 14 = S 14 := by funext i; simp [mu]
  have r15 : (mu S 19 a (nI b)) 15 = S 15 := by funext i; simp [mu]
  have r16 : (mu S 19 a (nI b)) 16 = S 16 := by funext i; simp [mu]
  have r20 : (mu S 19 a (nI b)) 20 = S 20 := by funext i; simp [mu]
  have r21 : (mu S 19 a (nI b)) 21 = S 21 := by funext i; simp [mu]
  have r23 : (mu S 19 a (nI b)) 23 = S 23 := by funext i; simp [mu]
  have r26 : (mu S 19 a (nI b)) 26 = S 26 := by funext i; simp [mu]
  have r28 : (mu S 19 a (nI b)) 28 = S 28 := by funext i; simp [mu]
  have r29 : (mu S 19 a (nI b)) 29 = S 29 := by funext i; simp [mu]
  have r34 : (mu S 19 a (nI b)) 34 = S 34 := by funext i; simp [mu]
  refine ⟨⟨by rw [r1]; exact b1, b2, by rw [r5]; exact b3, b4, by rw [r34]; exact b5, b6, by rw [r2]; exact b7⟩, ?_, ?_, ?_, ?_, ?_, ?_, ?_, ?_, ?_, ?_, BT⟩
  · simp only [nn, N]; rw [r3]; exact B3
  · simp only [N]; rw [r3]; exact B2
  · simp only [vnb]; rw [r6, r7, r9]; exact BP
  · simp only [nn, N]; rw [r4]; exact B4
  · simp only [nn, N]; rw [r8]; exact B8
  · simp only [nn, N]; rw [r26]; exact B26
  · rw [r9]; exact B9
  · simp only [vnb]; rw [r9]; exact BN
  · intro x hx
    have g := BA x hx
    have e19 : (mu S 19 a (nI b)) 19 x = if x = a then nI b else S 19 x := by simp [mu]
    simp only [nn, N]
    rw [r12, r13, r14, r15, r16, r21, r23, r28, r29, e19]
    refine ⟨g.1, g.2.1, g.2.2.1, g.2.2.2.1, ?_, g.2.2.2.2.2⟩
    split
    · exact Or.inr ⟨b, hbn, rfl⟩
    · exact g.2.2.2.2.1
  · simp only [N]; rw [r20, r21]; exact BC
theorem SIM_thr (h8 : n ≤ 8) {a : Nat} {y : Int32} (ha : a < n) (h13 : S 13 a ≠ 0) (h19 : S 19 a = -1) (M : SIM S C n np nl sz a) : SIM (mu (mu (mu S 19 a (-1)) 14 a 1) 22 a y) (mu (mu C 50 a 2) 22 a y) n np nl (sz) 8 := by
  obtain ⟨M1, MG, ME, MC, MT, MK, MO, MP, MQ, ML⟩ := M
  have r2 : (mu (mu (mu S 19 a (-1)) 14 a 1) 22 a y) 2 = S 2 := by funext i; simp [mu]
  have r3 : (mu (mu (mu S 19 a (-1)) 14 a 1) 22 a y) 3 = S 3 := by funext i; simp [mu]
  have r4 : (mu (mu (mu S 19 a (-1)) 14 a 1) 22 a y) 4 = S 4 := by funext i; simp [mu]
  have r6 : (mu (mu (mu S 19 a (-1)) 14 a 1) 22 a y) 6 = S 6 := by funext i; simp [mu]
  have r7 : (mu (mu (mu S 19 a (-1)) 14 a 1) 22 a y) 7 = S 7 := by funext i; simp [mu]
  have r8 : (mu (mu (mu S 19 a (-1)) 14 a 1) 22 a y) 8 = S 8 := by funext i; simp [mu]
  have r9 : (mu (mu (mu S 19 a (-1)) 14 a 1) 22 a y) 9 = S 9 := by funext i; simp [mu]
  have r10 : (mu (mu (mu S 19 a (-1)) 14 a 1) 22 a y) 10 = S 10 := by funext i; simp [mu]
  have r11 : (mu (mu (mu S 19 a (-1)) 14 a 1) 22 a y) 11 = S 11 := by funext i; simp [mu]
  have r12 : (mu (mu (mu S 19 a (-1)) 14 a 1) 22 a y) 12 = S 12 := by funext i; simp [mu]
  have r13 : (mu (mu (mu S 19 a (-1)) 14 a 1) 22 a y) 13 = S 13 := by funext i; simp [mu]
  have r15 : (mu (mu (mu S 19 a (-1)) 14 a 1) 22 a y) 15 = S 15 := by funext i; simp [mu]
  have r16 : (mu (mu (mu S 19 a (-1)) 14 a 1) 22 a y) 16 = S 16 := by funext i; simp [mu]
  have r17 : (mu (mu (mu S 19 a (-1)) 14 a 1) 22 a y) 17 = S 17 := by funext i; simp [mu]
  have r18 : (mu (mu (mu S 19 a (-1)) 14 a 1) 22 a y) 18 = S 18 := by funext i; simp [mu]
  have r20 : (mu (mu (mu S 19 a (-1)) 14 a 1) 22 a y) 20 = S 20 := by funext i; simp [mu]
  have r21 : (mu (mu (mu S 19 a (-1)) 14 a 1) 22 a y) 21 = S 21 := by funext i; simp [mu]
  have r23 : (mu (mu (mu S 19 a (-1)) 14 a 1) 22 a y) 23 = S 23 := by funext i; simp [mu]
  have r25 : (mu (mu (mu S 19 a (-1)) 14 a 1) 22 a y) 25 = S 25 := by funext i; simp [mu]
  have r26 : (mu (mu (mu S 19 a (-1)) 14 a 1) 22 a y) 26 = S 26 := by funext i; simp [mu]
  have r27 : (mu (mu (mu S 19 a (-1)) 14 a 1) 22 a y) 27 = S 27 := by funext i; simp [mu]
  have r28 : (mu (mu (mu S 19 a (-1)) 14 a 1) 22 a y) 28 = S 28 := by funext i; simp [mu]
  have r29 : (mu (mu (mu S 19 a (-1)) 14 a 1) 22 a y) 29 = S 29 := by funext i; simp [mu]
  have r31 : (mu (mu (mu S 19 a (-1)) 14 a 1) 22 a y) 31 = S 31 := by funext i; simp [mu]
  have r35 : (mu (mu (mu S 19 a (-1)) 14 a 1) 22 a y) 35 = S 35 := by funext i; simp [mu]
  have r36 : (mu (mu (mu S 19 a (-1)) 14 a 1) 22 a y) 36 = S 36 := by funext i; simp [mu]
  have r37 : (mu (mu (mu S 19 a (-1)) 14 a 1) 22 a y) 37 = S 37 := by funext i; simp [mu]
  have r38 : (mu (mu (mu S 19 a (-1)) 14 a 1) 22 a y) 38 = S 38 := by funext i; simp [mu]
  have r39 : (mu (mu (mu S 19 a (-1)) 14 a 1) 22 a y) 39 = S 39 := by funext i; simp [mu]
  have r41 : (mu (mu (mu S 19 a (-1)) 14 a 1) 22 a y) 41 = S 41 := by funext i; simp [mu]
  have c1 : (mu (mu C 50 a 2) 22 a y) 1 = C 1 := by funext i; simp [mu]
  have c3 : (mu (mu C 50 a 2) 22 a y) 3 = C 3 := by funext i; simp [mu]
  have c4 : (mu (mu C 50 a 2) 22 a y) 4 = C 4 := by funext i; simp [mu]
  have c5 : (mu (mu C 50 a 2) 22 a y) 5 = C 5 := by funext i; simp [mu]
  have c9 : (mu (mu C 50 a 2) 22 a y) 9 = C 9 := by funext i; simp [mu]
  have c10 : (mu (mu C 50 a 2) 22 a y) 10 = C 10 := by funext i; simp [mu]
  have c11 : (mu (mu C 50 a 2) 22 a y) 11 = C 11 := by funext i; simp [mu]
  have c12 : (mu (mu C 50 a 2) 22 a y) 12 = C 12 := by funext i; simp [mu]
  have c15 : (mu (mu C 50 a 2) 22 a y) 15 = C 15 := by funext i; simp [mu]
  have c16 : (mu (mu C 50 a 2) 22 a y) 16 = C 16 := by funext i; simp [mu]
  have c17 : (mu (mu C 50 a 2) 22 a y) 17 = C 17 := by funext i; simp [mu]
  have c18 : (mu (mu C 50 a 2) 22 a y) 18 = C 18 := by funext i; simp [mu]
  have c23 : (mu (mu C 50 a 2) 22 a y) 23 = C 23 := by funext i; simp [mu]
  have c27 : (mu (mu C 50 a 2) 22 a y) 27 = C 27 := by funext i; simp [mu]
  have c28 : (mu (mu C 50 a 2) 22 a y) 28 = C 28 := by funext i; simp [mu]
  have c34 : (mu (mu C 50 a 2) 22 a y) 34 = C 34 := by funext i; simp [mu]
  have c35 : (mu (mu C 50 a 2) 22 a y) 35 = C 35 := by funext i; simp [mu]
  have c36 : (mu (mu C 50 a 2) 22 a y) 36 = C 36 := by funext i; simp [mu]
  have c37 : (mu (mu C 50 a 2) 22 a y) 37 = C 37 := by funext i; simp [mu]
  have c38 : (mu (mu C 50 a 2) 22 a y) 38 = C 38 := by funext i; simp [mu]
  have c51 : (mu (mu C 50 a 2) 22 a y) 51 = C 51 := by funext i; simp [mu]
  have c52 : (mu (mu C 50 a 2) 22 a y) 52 = C 52 := by funext i; simp [mu]
  have c53 : (mu (mu C 50 a 2) 22 a y) 53 = C 53 := by funext i; simp [mu]
  have c54 : (mu (mu C 50 a 2) 22 a y) 54 = C 54 := by funext i; simp [mu]
  have c55 : (mu (mu C 50 a 2) 22 a y) 55 = C 55 := by funext i; simp [mu]
  have c56 : (mu (mu C 50 a 2) 22 a y) 56 = C 56 := by funext i; simp [mu]
  have c57 : (mu (mu C 50 a 2) 22 a y) 57 = C 57 := by funext i; simp [mu]
  have c58 : (mu (mu C 50 a 2) 22 a y) 58 = C 58 := by funext i; simp [mu]
  have c59 : (mu (mu C 50 a 2) 22 a y) 59 = C 59 := by funext i; simp [mu]
  have c60 : (mu (mu C 50 a 2) 22 a y) 60 = C 60 := by funext i; simp [mu]
  have c62 : (mu (mu C 50 a 2) 22 a y) 62 = C 62 := by funext i; simp [mu]
  have c63 : (mu (mu C 50 a 2) 22 a y) 63 = C 63 := by funext i; simp [mu]
  have c64 : (mu (mu C 50 a 2) 22 a y) 64 = C 64 := by funext i; simp [mu]
  have c65 : (mu (mu C 50 a 2) 22 a y) 65 = C 65 := by funext i; simp [mu]
  have c66 : (mu (mu C 50 a 2) 22 a y) 66 = C 66 := by funext i; simp [mu]
  have c67 : (mu (mu C 50 a 2) 22 a y) 67 = C 67 := by funext i; simp [mu]
  have c68 : (mu (mu C 50 a 2) 22 a y) 68 = C 68 := by funext i; simp [mu]
  have r19' : (mu (mu (mu S 19 a (-1)) 14 a 1) 22 a y) 19 = S 19 := by
    funext x; by_cases q : x = a
    · rw [q, h19]; simp [mu]
    · simp [mu, q]
  refine ⟨?_, ?_, ?_, ?_, ?_, ?_, ?_, ?_, ?_, ?_⟩
  · exact M1_rows r2 r27 c1 c5 c34 c60 c27 rfl rfl rfl M1
  · intro x hx
    have g := MG x hx
    have e22 : (mu (mu (mu S 19 a (-1)) 14 a 1) 22 a y) 22 x = if x = a then y else S 22 x := by simp [mu]
    have d22 : (mu (mu C 50 a 2) 22 a y) 22 x = if x = a then y else C 22 x := by simp [mu]
    rw [r3, r9, r10, r15, r16, r17, r18, r23, r28, c3, c9, c10, c15, c16, c17, c18, c23, c28, e22, d22, g.2.2.2.2.2.2.2.1]
    exact ⟨g.1, g.2.1, g.2.2.1, g.2.2.2.1, g.2.2.2.2.1, g.2.2.2.2.2.1, g.2.2.2.2.2.2.1, rfl, g.2.2.2.2.2.2.2.2⟩
  · intro x hx
    have g := ME x hx
    have d50 : (mu (mu C 50 a 2) 22 a y) 50 x = if x = a then 2 else C 50 x := by simp [mu]
    have e14 : (mu (mu (mu S 19 a (-1)) 14 a 1) 22 a y) 14 x = if x = a then 1 else S 14 x := by simp [mu]
    rw [d50, c51, r19']
    refine ⟨fun _ => ?_, g.2⟩
    unfold stg; rw [r13, e14]
    by_cases z : x = a
    · rw [if_pos z, if_pos z, z, if_neg h13]; rfl
    · rw [if_neg z, if_neg z]; exact g.1 z
  · exact mC_rows r19' r20 r21 r23 r25 r26 c52 c53 c54 c55 c56 (fun _ => rfl) MC
  · exact MT_rows r23 r25 r26 c57 c58 MT
  · exact MK_rows r28 r31 c59 c66 MK
  · exact MO_rows r4 c4 MO
  · exact MP_rows r6 r7 r8 c62 c63 c64 MP
  · exact MQ_rows r10 r11 r12 r29 c11 c12 c65 (fun _ => rfl) MQ
  · exact ML_rows r35 r36 r37 r38 r39 r41 c35 c36 c37 c38 c67 c68 ML
theorem BI_thr {a : Nat} {y : Int32} (B : BI S n np nl T) : BI (mu (mu (mu S 19 a (-1)) 14 a 1) 22 a y) n np nl T := by
  obtain ⟨⟨b1, b2, b3, b4, b5, b6, b7⟩, B3, B2, BP, B4, B8, B26, B9, BN, BA, BC, BT⟩ := B
  have r1 : (mu (mu (mu S 19 a (-1)) 14 a 1) 22 a y) 1 = S 1 := by funext i; simp [mu]
  have r2 : (mu (mu (mu S 19 a (-1)) 14 a 1) 22 a y) 2 = S 2 := by funext i; simp [mu]
  have r3 : (mu (mu (mu S 19 a (-1)) 14 a 1) 22 a y) 3 = S 3 := by funext i; simp [mu]
  have r4 : (mu (mu (mu S 19 a (-1)) 14 a 1) 22 a y) 4 = S 4 := by funext i; simp [mu]
  have r5 : (mu (mu (mu S 19 a (-1)) 14 a 1) 22 a y) 5 = S 5 := by funext i; simp [mu]
  have r6 : (mu (mu (mu S 19 a (-1)) 14 a 1) 22 a y) 6 = S 6 := by funext i; simp [mu]
  have r7 : (mu (mu (mu S 19 a (-1)) 14 a 1) 22 a y) 7 = S 7 := by funext i; simp [mu]
  have r8 : (mu (mu (mu S 19 a (-1)) 14 a 1) 22 a y) 8 = S 8 := by funext i; simp [mu]
  have r9 : (mu (mu (mu S 19 a (-1)) 14 a 1) 22 a y) 9 = S 9 := by funext i; simp [mu]
  have r12 : (mu (mu (mu S 19 a (-1)) 14 a 1) 22 a y) 12 = S 12 := by funext i; simp [mu]
  have r13 : (mu (mu (mu S 19 a (-1)) 14 a 1) 22 a y) 13 = S 13 := by funext i; simp [mu]
  have r15 : (mu (mu (mu S 19 a (-1)) 14 a 1) 22 a y) 15 = S 15 := by funext i; simp [mu]
  have r16 : (mu (mu (mu S 19 a (-1)) 14 a 1) 22 a y) 16 = S 16 := by funext i; simp [mu]
  have r20 : (mu (mu (mu S 19 a (-1)) 14 a 1) 22 a y) 20 = S 20 := by funext i; simp [mu]
  have r21 : (mu (mu (mu S 19 a (-1)) 14 a 1) 22 a y) 21 = S 21 := by funext i; simp [mu]
  have r23 : (mu (mu (mu S 19 a (-1)) 14 a 1) 22 a y) 23 = S 23 := by funext i; simp [mu]
  have r26 : (mu (mu (mu S 19 a (-1)) 14 a 1) 22 a y) 26 = S 26 := by funext i; simp [mu]
  have r28 : (mu (mu (mu S 19 a (-1)) 14 a 1) 22 a y) 28 = S 28 := by funext i; simp [mu]
  have r29 : (mu (mu (mu S 19 a (-1)) 14 a 1) 22 a y) 29 = S 29 := by funext i; simp [mu]
  have r34 : (mu (mu (mu S 19 a (-1)) 14 a 1) 22 a y) 34 = S 34 := by funext i; simp [mu]
  refine ⟨⟨by rw [r1]; exact b1, b2, by rw [r5]; exact b3, b4, by rw [r34]; exact b5, b6, by rw [r2]; exact b7⟩, ?_, ?_, ?_, ?_, ?_, ?_, ?_, ?_, ?_, ?_, BT⟩
  · simp only [nn, N]; rw [r3]; exact B3
  · simp only [N]; rw [r3]; exact B2
  · simp only [vnb]; rw [r6, r7, r9]; exact BP
  · simp only [nn, N]; rw [r4]; exact B4
  · simp only [nn, N]; rw [r8]; exact B8
  · simp only [nn, N]; rw [r26]; exact B26
  · rw [r9]; exact B9
  · simp only [vnb]; rw [r9]; exact BN
  · intro x hx
    have g := BA x hx
    have e19 : (mu (mu (mu S 19 a (-1)) 14 a 1) 22 a y) 19 x = if x = a then -1 else S 19 x := by simp [mu]
    have e14 : (mu (mu (mu S 19 a (-1)) 14 a 1) 22 a y) 14 x = if x = a then 1 else S 14 x := by simp [mu]
    simp only [nn, N]
    rw [r12, r13, r15, r16, r21, r23, r28, r29, e19, e14]
    refine ⟨g.1, ?_, g.2.2.1, g.2.2.2.1, ?_, g.2.2.2.2.2⟩
    · split
      · exact Or.inr rfl
      · exact g.2.1
    · split
      · exact Or.inl rfl
      · exact g.2.2.2.2.1
  · simp only [N]; rw [r20, r21]; exact BC
theorem SIM_wide {a : Nat} (M : SIM S C n np nl sz 8) : SIM (mu S 15 a 1) (mu C 15 a 1) n np nl (sz) 8 := by
  obtain ⟨M1, MG, ME, MC, MT, MK, MO, MP, MQ, ML⟩ := M
  have r2 : (mu S 15 a 1) 2 = S 2 := by funext i; simp [mu]
  have r3 : (mu S 15 a 1) 3 = S 3 := by funext i; simp [mu]
  have r4 : (mu S 15 a 1) 4 = S 4 := by funext i; simp [mu]
  have r6 : (mu S 15 a 1) 6 = S 6 := by funext i; simp [mu]
  have r7 : (mu S 15 a 1) 7 = S 7 := by funext i; simp [mu]
  have r8 : (mu S 15 a 1) 8 = S 8 := by funext i; simp [mu]
  have r9 : (mu S 15 a 1) 9 = S 9 := by funext i; simp [mu]
  have r10 : (mu S 15 a 1) 10 = S 10 := by funext i; simp [mu]
  have r11 : (mu S 15 a 1) 11 = S 11 := by funext i; simp [mu]
  have r12 : (mu S 15 a 1) 12 = S 12 := by funext i; simp [mu]
  have r13 : (mu S 15 a 1) 13 = S 13 := by funext i; simp [mu]
  have r14 : (mu S 15 a 1) 14 = S 14 := by funext i; simp [mu]
  have r16 : (mu S 15 a 1) 16 = S 16 := by funext i; simp [mu]
  have r17 : (mu S 15 a 1) 17 = S 17 := by funext i; simp [mu]
  have r18 : (mu S 15 a 1) 18 = S 18 := by funext i; simp [mu]
  have r19 : (mu S 15 a 1) 19 = S 19 := by funext i; simp [mu]
  have r20 : (mu S 15 a 1) 20 = S 20 := by funext i; simp [mu]
  have r21 : (mu S 15 a 1) 21 = S 21 := by funext i; simp [mu]
  have r22 : (mu S 15 a 1) 22 = S 22 := by funext i; simp [mu]
  have r23 : (mu S 15 a 1) 23 = S 23 := by funext i; simp [mu]
  have r25 : (mu S 15 a 1) 25 = S 25 := by funext i; simp [mu]
  have r26 : (mu S 15 a 1) 26 = S 26 := by funext i; simp [mu]
  have r27 : (mu S 15 a 1) 27 = S 27 := by funext i; simp [mu]
  have r28 : (mu S 15 a 1) 28 = S 28 := by funext i; simp [mu]
  have r29 : (mu S 15 a 1) 29 = S 29 := by funext i; simp [mu]
  have r31 : (mu S 15 a 1) 31 = S 31 := by funext i; simp [mu]
  have r35 : (mu S 15 a 1) 35 = S 35 := by funext i; simp [mu]
  have r36 : (mu S 15 a 1) 36 = S 36 := by funext i; simp [mu]
  have r37 : (mu S 15 a 1) 37 = S 37 := by funext i; simp [mu]
  have r38 : (mu S 15 a 1) 38 = S 38 := by funext i; simp [mu]
  have r39 : (mu S 15 a 1) 39 = S 39 := by funext i; simp [mu]
  have r41 : (mu S 15 a 1) 41 = S 41 := by funext i; simp [mu]
  have c1 : (mu C 15 a 1) 1 = C 1 := by funext i; simp [mu]
  have c3 : (mu C 15 a 1) 3 = C 3 := by funext i; simp [mu]
  have c4 : (mu C 15 a 1) 4 = C 4 := by funext i; simp [mu]
  have c5 : (mu C 15 a 1) 5 = C 5 := by funext i; simp [mu]
  have c9 : (mu C 15 a 1) 9 = C 9 := by funext i; simp [mu]
  have c10 : (mu C 15 a 1) 10 = C 10 := by funext i; simp [mu]
  have c11 : (mu C 15 a 1) 11 = C 11 := by funext i; simp [mu]
  have c12 : (mu C 15 a 1) 12 = C 12 := by funext i; simp [mu]
  have c16 : (mu C 15 a 1) 16 = C 16 := by funext i; simp [mu]
  have c17 : (mu C 15 a 1) 17 = C 17 := by funext i; simp [mu]
  have c18 : (mu C 15 a 1) 18 = C 18 := by funext i; simp [mu]
  have c22 : (mu C 15 a 1) 22 = C 22 := by funext i; simp [mu]
  have c23 : (mu C 15 a 1) 23 = C 23 := by funext i; simp [mu]
  have c27 : (mu C 15 a 1) 27 = C 27 := by funext i; simp [mu]
  have c28 : (mu C 15 a 1) 28 = C 28 := by funext i; simp [mu]
  have c34 : (mu C 15 a 1) 34 = C 34 := by funext i; simp [mu]
  have c35 : (mu C 15 a 1) 35 = C 35 := by funext i; simp [mu]
  have c36 : (mu C 15 a 1) 36 = C 36 := by funext i; simp [mu]
  have c37 : (mu C 15 a 1) 37 = C 37 := by funext i; simp [mu]
  have c38 : (mu C 15 a 1) 38 = C 38 := by funext i; simp [mu]
  have c50 : (mu C 15 a 1) 50 = C 50 := by funext i; simp [mu]
  have c51 : (mu C 15 a 1) 51 = C 51 := by funext i; simp [mu]
  have c52 : (mu C 15 a 1) 52 = C 52 := by funext i; simp [mu]
  have c53 : (mu C 15 a 1) 53 = C 53 := by funext i; simp [mu]
  have c54 : (mu C 15 a 1) 54 = C 54 := by funext i; simp [mu]
  have c55 : (mu C 15 a 1) 55 = C 55 := by funext i; simp [mu]
  have c56 : (mu C 15 a 1) 56 = C 56 := by funext i; simp [mu]
  have c57 : (mu C 15 a 1) 57 = C 57 := by funext i; simp [mu]
  have c58 : (mu C 15 a 1) 58 = C 58 := by funext i; simp [mu]
  have c59 : (mu C 15 a 1) 59 = C 59 := by funext i; simp [mu]
  have c60 : (mu C 15 a 1) 60 = C 60 := by funext i; simp [mu]
  have c62 : (mu C 15 a 1) 62 = C 62 := by funext i; simp [mu]
  have c63 : (mu C 15 a 1) 63 = C 63 := by funext i; simp [mu]
  have c64 : (mu C 15 a 1) 64 = C 64 := by funext i; simp [mu]
  have c65 : (mu C 15 a 1) 65 = C 65 := by funext i; simp [mu]
  have c66 : (mu C 15 a 1) 66 = C 66 := by funext i; simp [mu]
  have c67 : (mu C 15 a 1) 67 = C 67 := by funext i; simp [mu]
  have c68 : (mu C 15 a 1) 68 = C 68 := by funext i; simp [mu]
  refine ⟨?_, ?_, ?_, ?_, ?_, ?_, ?_, ?_, ?_, ?_⟩
  · exact M1_rows r2 r27 c1 c5 c34 c60 c27 rfl rfl rfl M1
  · intro x hx
    have g := MG x hx
    have e15 : (mu S 15 a 1) 15 x = if x = a then 1 else S 15 x := by simp [mu]
    have d15 : (mu C 15 a 1) 15 x = if x = a then 1 else C 15 x := by simp [mu]
    rw [r3, r9, r10, r16, r17, r18, r22, r23, r28, c3, c9, c10, c16, c17, c18, c22, c23, c28, e15, d15, g.2.2.2.1]
    exact ⟨g.1, g.2.1, g.2.2.1, rfl, g.2.2.2.2⟩
  · exact ME_rows r13 r14 r19 c50 c51 ME
  · exact mC_rows r19 r20 r21 r23 r25 r26 c52 c53 c54 c55 c56 (fun _ => rfl) MC
  · exact MT_rows r23 r25 r26 c57 c58 MT
  · exact MK_rows r28 r31 c59 c66 MK
  · exact MO_rows r4 c4 MO
  · exact MP_rows r6 r7 r8 c62 c63 c64 MP
  · exact MQ_rows r10 r11 r12 r29 c11 c12 c65 (fun _ => rfl) MQ
  · exact ML_rows r35 r36 r37 r38 r39 r41 c35 c36 c37 c38 c67 c68 ML
theorem BI_wide {a : Nat} (B : BI S n np nl T) : BI (mu S 15 a 1) n np nl T := by
  obtain ⟨⟨b1, b2, b3, b4, b5, b6, b7⟩, B3, B2, BP, B4, B8, B26, B9, BN, BA, BC, BT⟩ := B
  have r1 : (mu S 15 a 1) 1 = S 1 := by funext i; simp [mu]
  have r2 : (mu S 15 a 1) 2 = S 2 := by funext i; simp [mu]
  have r3 : (mu S 15 a 1) 3 = S 3 := by funext i; simp [mu]
  have r4 : (mu S 15 a 1) 4 = S 4 := by funext i; simp [mu]
  have r5 : (mu S 15 a 1) 5 = S 5 := by funext i; simp [mu]
  have r6 : (mu S 15 a 1) 6 = S 6 := by funext i; simp [mu]
  have r7 : (mu S 15 a 1) 7 = S 7 := by funext i; simp [mu]
  have r8 : (mu S 15 a 1) 8 = S 8 := by funext i; simp [mu]
  have r9 : (mu S 15 a 1) 9 = S 9 := by funext i; simp [mu]
  have r12 : (mu S 15 a 1) 12 = S 12 := by funext i; simp [mu]
  have r13 : (mu S 15 a 1) 13 = S 13 := by funext i; simp [mu]
  have r14 : (mu S 15 a 1) 14 = S 14 := by funext i; simp [mu]
  have r16 : (mu S 15 a 1) 16 = S 16 := by funext i; simp [mu]
  have r19 : (mu S 15 a 1) 19 = S 19 := by funext i; simp [mu]
  have r20 : (mu S 15 a 1) 20 = S 20 := by funext i; simp [mu]
  have r21 : (mu S 15 a 1) 21 = S 21 := by funext i; simp [mu]
  have r23 : (mu S 15 a 1) 23 = S 23 := by funext i; simp [mu]
  have r26 : (mu S 15 a 1) 26 = S 26 := by funext i; simp [mu]
  have r28 : (mu S 15 a 1) 28 = S 28 := by funext i; simp [mu]
  have r29 : (mu S 15 a 1) 29 = S 29 := by funext i; simp [mu]
  have r34 : (mu S 15 a 1) 34 = S 34 := by funext i; simp [mu]
  refine ⟨⟨by rw [r1]; exact b1, b2, by rw [r5]; exact b3, b4, by rw [r34]; exact b5, b6, by rw [r2]; exact b7⟩, ?_, ?_, ?_, ?_, ?_, ?_, ?_, ?_, ?_, ?_, BT⟩
  · simp only [nn, N]; rw [r3]; exact B3
  · simp only [N]; rw [r3]; exact B2
  · simp only [vnb]; rw [r6, r7, r9]; exact BP
  · simp only [nn, N]; rw [r4]; exact B4
  · simp only [nn, N]; rw [r8]; exact B8
  · simp only [nn, N]; rw [r26]; exact B26
  · rw [r9]; exact B9
  · simp only [vnb]; rw [r9]; exact BN
  · intro x hx
    have g := BA x hx
    have e15 : (mu S 15 a 1) 15 x = if x = a then 1 else S 15 x := by simp [mu]
    simp only [nn, N]
    rw [r12, r13, r14, r16, r19, r21, r23, r28, r29, e15]
    refine ⟨g.1, g.2.1, ?_, g.2.2.2⟩
    split
    · exact Or.inr rfl
    · exact g.2.2.1
  · simp only [N]; rw [r20, r21]; exact BC
theorem SIM_none {a p : Nat} {y : Int32} (hp : p < 8) (h11 : S 11 p = nI a) (ha : a < 8) (hno : ∀ q, q < 8 → sz 5 q = 1 → q ≠ p → N S 11 q ≠ a) (M : SIM S C n np nl sz 8) : SIM (mu S 29 a y) (mu C 65 p y) n np nl (sz) 8 := by
  obtain ⟨M1, MG, ME, MC, MT, MK, MO, MP, MQ, ML⟩ := M
  have r2 : (mu S 29 a y) 2 = S 2 := by funext i; simp [mu]
  have r3 : (mu S 29 a y) 3 = S 3 := by funext i; simp [mu]
  have r4 : (mu S 29 a y) 4 = S 4 := by funext i; simp [mu]
  have r6 : (mu S 29 a y) 6 = S 6 := by funext i; simp [mu]
  have r7 : (mu S 29 a y) 7 = S 7 := by funext i; simp [mu]
  have r8 : (mu S 29 a y) 8 = S 8 := by funext i; simp [mu]
  have r9 : (mu S 29 a y) 9 = S 9 := by funext i; simp [mu]
  have r10 : (mu S 29 a y) 10 = S 10 := by funext i; simp [mu]
  have r11 : (mu S 29 a y) 11 = S 11 := by funext i; simp [mu]
  have r12 : (mu S 29 a y) 12 = S 12 := by funext i; simp [mu]
  have r13 : (mu S 29 a y) 13 = S 13 := by funext i; simp [mu]
  have r14 : (mu S 29 a y) 14 = S 14 := by funext i; simp [mu]
  have r15 : (mu S 29 a y) 15 = S 15 := by funext i; simp [mu]
  have r16 : (mu S 29 a y) 16 = S 16 := by funext i; simp [mu]
  have r17 : (mu S 29 a y) 17 = S 17 := by funext i; simp [mu]
  have r18 : (mu S 29 a y) 18 = S 18 := by funext i; simp [mu]
  have r19 : (mu S 29 a y) 19 = S 19 := by funext i; simp [mu]
  have r20 : (mu S 29 a y) 20 = S 20 := by funext i; simp [mu]
  have r21 : (mu S 29 a y) 21 = S 21 := by funext i; simp [mu]
  have r22 : (mu S 29 a y) 22 = S 22 := by funext i; simp [mu]
  have r23 : (mu S 29 a y) 23 = S 23 := by funext i; simp [mu]
  have r25 : (mu S 29 a y) 25 = S 25 := by funext i; simp [mu]
  have r26 : (mu S 29 a y) 26 = S 26 := by funext i; simp [mu]
  have r27 : (mu S 29 a y) 27 = S 27 := by funext i; simp [mu]
  have r28 : (mu S 29 a y) 28 = S 28 := by funext i; simp [mu]
  have r31 : (mu S 29 a y) 31 = S 31 := by funext i; simp [mu]
  have r35 : (mu S 29 a y) 35 = S 35 := by funext i; simp [mu]
  have r36 : (mu S 29 a y) 36 = S 36 := by funext i; simp [mu]
  have r37 : (mu S 29 a y) 37 = S 37 := by funext i; simp [mu]
  have r38 : (mu S 29 a y) 38 = S 38 := by funext i; simp [mu]
  have r39 : (mu S 29 a y) 39 = S 39 := by funext i; simp [mu]
  have r41 : (mu S 29 a y) 41 = S 41 := by funext i; simp [mu]
  have c1 : (mu C 65 p y) 1 = C 1 := by funext i; simp [mu]
  have c3 : (mu C 65 p y) 3 = C 3 := by funext i; simp [mu]
  have c4 : (mu C 65 p y) 4 = C 4 := by funext i; simp [mu]
  have c5 : (mu C 65 p y) 5 = C 5 := by funext i; simp [mu]
  have c9 : (mu C 65 p y) 9 = C 9 := by funext i; simp [mu]
  have c10 : (mu C 65 p y) 10 = C 10 := by funext i; simp [mu]
  have c11 : (mu C 65 p y) 11 = C 11 := by funext i; simp [mu]
  have c12 : (mu C 65 p y) 12 = C 12 := by funext i; simp [mu]
  have c15 : (mu C 65 p y) 15 = C 15 := by funext i; simp [mu]
  have c16 : (mu C 65 p y) 16 = C 16 := by funext i; simp [mu]
  have c17 : (mu C 65 p y) 17 = C 17 := by funext i; simp [mu]
  have c18 : (mu C 65 p y) 18 = C 18 := by funext i; simp [mu]
  have c22 : (mu C 65 p y) 22 = C 22 := by funext i; simp [mu]
  have c23 : (mu C 65 p y) 23 = C 23 := by funext i; simp [mu]
  have c27 : (mu C 65 p y) 27 = C 27 := by funext i; simp [mu]
  have c28 : (mu C 65 p y) 28 = C 28 := by funext i; simp [mu]
  have c34 : (mu C 65 p y) 34 = C 34 := by funext i; simp [mu]
  have c35 : (mu C 65 p y) 35 = C 35 := by funext i; simp [mu]
  have c36 : (mu C 65 p y) 36 = C 36 := by funext i; simp [mu]
  have c37 : (mu C 65 p y) 37 = C 37 := by funext i; simp [mu]
  have c38 : (mu C 65 p y) 38 = C 38 := by funext i; simp [mu]
  have c50 : (mu C 65 p y) 50 = C 50 := by funext i; simp [mu]
  have c51 : (mu C 65 p y) 51 = C 51 := by funext i; simp [mu]
  have c52 : (mu C 65 p y) 52 = C 52 := by funext i; simp [mu]
  have c53 : (mu C 65 p y) 53 = C 53 := by funext i; simp [mu]
  have c54 : (mu C 65 p y) 54 = C 54 := by funext i; simp [mu]
  have c55 : (mu C 65 p y) 55 = C 55 := by funext i; simp [mu]
  have c56 : (mu C 65 p y) 56 = C 56 := by funext i; simp [mu]
  have c57 : (mu C 65 p y) 57 = C 57 := by funext i; simp [mu]
  have c58 : (mu C 65 p y) 58 = C 58 := by funext i; simp [mu]
  have c59 : (mu C 65 p y) 59 = C 59 := by funext i; simp [mu]
  have c60 : (mu C 65 p y) 60 = C 60 := by funext i; simp [mu]
  have c62 : (mu C 65 p y) 62 = C 62 := by funext i; simp [mu]
  have c63 : (mu C 65 p y) 63 = C 63 := by funext i; simp [mu]
  have c64 : (mu C 65 p y) 64 = C 64 := by funext i; simp [mu]
  have c66 : (mu C 65 p y) 66 = C 66 := by funext i; simp [mu]
  have c67 : (mu C 65 p y) 67 = C 67 := by funext i; simp [mu]
  have c68 : (mu C 65 p y) 68 = C 68 := by funext i; simp [mu]
  refine ⟨?_, ?_, ?_, ?_, ?_, ?_, ?_, ?_, ?_, ?_⟩
  · exact M1_rows r2 r27 c1 c5 c34 c60 c27 rfl rfl rfl M1
  · exact MG_rows r3 r9 r10 r15 r16 r17 r18 r22 r23 r28 c3 c9 c10 c15 c16 c17 c18 c22 c23 c28 MG
  · exact ME_rows r13 r14 r19 c50 c51 ME
  · exact mC_rows r19 r20 r21 r23 r25 r26 c52 c53 c54 c55 c56 (fun _ => rfl) MC
  · exact MT_rows r23 r25 r26 c57 c58 MT
  · exact MK_rows r28 r31 c59 c66 MK
  · exact MO_rows r4 c4 MO
  · exact MP_rows r6 r7 r8 c62 c63 c64 MP
  · refine ⟨by rw [r10]; exact MQ.1, fun q hq e => ?_⟩
    have g := MQ.2 q hq e
    have n11 : N (mu S 29 a y) 11 q = N S 11 q := by simp only [N, r11]
    have e29 : ∀ x, (mu S 29 a y) 29 x = if x = a then y else S 29 x := fun x => by simp [mu]
    have d65 : (mu C 65 p y) 65 q = if q = p then y else C 65 q := by simp [mu]
    rw [c11, c12, r11, r12, d65, n11, e29]
    refine ⟨g.1, g.2.1, ?_⟩
    by_cases z : q = p
    · rw [if_pos z, z, if_pos (N_nI h11 (by omega))]
    · rw [if_neg z, if_neg (hno q hq e z)]; exact g.2.2
  · exact ML_rows r35 r36 r37 r38 r39 r41 c35 c36 c37 c38 c67 c68 ML
theorem BI_none {a r : Nat} (hr : r ≤ T) (B : BI S n np nl T) : BI (mu S 29 a (nI r)) n np nl T := by
  obtain ⟨⟨b1, b2, b3, b4, b5, b6, b7⟩, B3, B2, BP, B4, B8, B26, B9, BN, BA, BC, BT⟩ := B
  have r1 : (mu S 29 a (nI r)) 1 = S 1 := by funext i; simp [mu]
  have r2 : (mu S 29 a (nI r)) 2 = S 2 := by funext i; simp [mu]
  have r3 : (mu S 29 a (nI r)) 3 = S 3 := by funext i; simp [mu]
  have r4 : (mu S 29 a (nI r)) 4 = S 4 := by funext i; simp [mu]
  have r5 : (mu S 29 a (nI r)) 5 = S 5 := by funext i; simp [mu]
  have r6 : (mu S 29 a (nI r)) 6 = S 6 := by funext i; simp [mu]
  have r7 : (mu S 29 a (nI r)) 7 = S 7 := by funext i; simp [mu]
  have r8 : (mu S 29 a (nI r)) 8 = S 8 := by funext i; simp [mu]
  have r9 : (mu S 29 a (nI r)) 9 = S 9 := by funext i; simp [mu]
  have r12 : (mu S 29 a (nI r)) 12 = S 12 := by funext i; simp [mu]
  have r13 : (mu S 29 a (nI r)) 13 = S 13 := by funext i; simp [mu]
  have r14 : (mu S 29 a (nI r)) 14 = S 14 := by funext i; simp [mu]
  have r15 : (mu S 29 a (nI r)) 15 = S 15 := by funext i; simp [mu]
  have r16 : (mu S 29 a (nI r)) 16 = S 16 := by funext i; simp [mu]
  have r19 : (mu S 29 a (nI r)) 19 = S 19 := by funext i; simp [mu]
  have r20 : (mu S 29 a (nI r)) 20 = S 20 := by funext i; simp [mu]
  have r21 : (mu S 29 a (nI r)) 21 = S 21 := by funext i; simp [mu]
  have r23 : (mu S 29 a (nI r)) 23 = S 23 := by funext i; simp [mu]
  have r26 : (mu S 29 a (nI r)) 26 = S 26 := by funext i; simp [mu]
  have r28 : (mu S 29 a (nI r)) 28 = S 28 := by funext i; simp [mu]
  have r34 : (mu S 29 a (nI r)) 34 = S 34 := by funext i; simp [mu]
  refine ⟨⟨by rw [r1]; exact b1, b2, by rw [r5]; exact b3, b4, by rw [r34]; exact b5, b6, by rw [r2]; exact b7⟩, ?_, ?_, ?_, ?_, ?_, ?_, ?_, ?_, ?_, ?_, BT⟩
  · simp only [nn, N]; rw [r3]; exact B3
  · simp only [N]; rw [r3]; exact B2
  · simp only [vnb]; rw [r6, r7, r9]; exact BP
  · simp only [nn, N]; rw [r4]; exact B4
  · simp only [nn, N]; rw [r8]; exact B8
  · simp only [nn, N]; rw [r26]; exact B26
  · rw [r9]; exact B9
  · simp only [vnb]; rw [r9]; exact BN
  · intro x hx
    have g := BA x hx
    have e29 : (mu S 29 a (nI r)) 29 x = if x = a then nI r else S 29 x := by simp [mu]
    simp only [nn, N]
    rw [r12, r13, r14, r15, r16, r19, r21, r23, r28, e29]
    refine ⟨g.1, g.2.1, g.2.2.1, g.2.2.2.1, g.2.2.2.2.1, g.2.2.2.2.2.1, g.2.2.2.2.2.2.1, g.2.2.2.2.2.2.2.1, ?_, g.2.2.2.2.2.2.2.2.2⟩
    split
    · rw [nI_clamp (by omega)]; exact ⟨rfl, hr⟩
    · exact g.2.2.2.2.2.2.2.2.1
  · simp only [N]; rw [r20, r21]; exact BC
end
