/-! SIMULATION S6. Laid by wip/whole/gen/p71.py -/
section
variable {S S' C : mS} {n np nl T : Nat} {sz : Nat → Nat → Nat} {A : Rl} {dd : Nat → Nat} {hh : Nat → Prop}
theorem SIM_cho (h8 : n ≤ 8) {a v : Nat} {r : Int32} {g : Nat → Int32} {hx : Nat} (ha : a < n) (hr0 : r ≠ 0) (hrow : ∀ j, j ≠ 28 → j ≠ 30 → j ≠ 31 → j ≠ 32 → j ≠ 33 → S' j = S j) (f28 : ∀ x, S' 28 x = if x = a then r else S 28 x) (f31 : ∀ i, S' 31 i = if 8 * a ≤ i ∧ i < 8 * a + 8 then (if i = 8 * a + a then nI v else g (i - 8 * a)) else S 31 i) (M : SIM S C n np nl sz hx) : SIM (S') (cs0 C a v r g) n np nl (sz) hx := by
  obtain ⟨M1, MG, ME, MC, MT, MK, MO, MP, MQ, ML⟩ := M
  have r2 : (S') 2 = S 2 := hrow 2 (by decide) (by decide) (by decide) (by decide) (by decide)
  have r3 : (S') 3 = S 3 := hrow 3 (by decide) (by decide) (by decide) (by decide) (by decide)
  have r4 : (S') 4 = S 4 := hrow 4 (by decide) (by decide) (by decide) (by decide) (by decide)
  have r6 : (S') 6 = S 6 := hrow 6 (by decide) (by decide) (by decide) (by decide) (by decide)
  have r7 : (S') 7 = S 7 := hrow 7 (by decide) (by decide) (by decide) (by decide) (by decide)
  have r8 : (S') 8 = S 8 := hrow 8 (by decide) (by decide) (by decide) (by decide) (by decide)
  have r9 : (S') 9 = S 9 := hrow 9 (by decide) (by decide) (by decide) (by decide) (by decide)
  have r10 : (S') 10 = S 10 := hrow 10 (by decide) (by decide) (by decide) (by decide) (by decide)
  have r11 : (S') 11 = S 11 := hrow 11 (by decide) (by decide) (by decide) (by decide) (by decide)
  have r12 : (S') 12 = S 12 := hrow 12 (by decide) (by decide) (by decide) (by decide) (by decide)
  have r13 : (S') 13 = S 13 := hrow 13 (by decide) (by decide) (by decide) (by decide) (by decide)
  have r14 : (S') 14 = S 14 := hrow 14 (by decide) (by decide) (by decide) (by decide) (by decide)
  have r15 : (S') 15 = S 15 := hrow 15 (by decide) (by decide) (by decide) (by decide) (by decide)
  have r16 : (S') 16 = S 16 := hrow 16 (by decide) (by decide) (by decide) (by decide) (by decide)
  have r17 : (S') 17 = S 17 := hrow 17 (by decide) (by decide) (by decide) (by decide) (by decide)
  have r18 : (S') 18 = S 18 := hrow 18 (by decide) (by decide) (by decide) (by decide) (by decide)
  have r19 : (S') 19 = S 19 := hrow 19 (by decide) (by decide) (by decide) (by decide) (by decide)
  have r20 : (S') 20 = S 20 := hrow 20 (by decide) (by decide) (by decide) (by decide) (by decide)
  have r21 : (S') 21 = S 21 := hrow 21 (by decide) (by decide) (by decide) (by decide) (by decide)
  have r22 : (S') 22 = S 22 := hrow 22 (by decide) (by decide) (by decide) (by decide) (by decide)
  have r23 : (S') 23 = S 23 := hrow 23 (by decide) (by decide) (by decide) (by decide) (by decide)
  have r25 : (S') 25 = S 25 := hrow 25 (by decide) (by decide) (by decide) (by decide) (by decide)
  have r26 : (S') 26 = S 26 := hrow 26 (by decide) (by decide) (by decide) (by decide) (by decide)
  have r27 : (S') 27 = S 27 := hrow 27 (by decide) (by decide) (by decide) (by decide) (by decide)
  have r29 : (S') 29 = S 29 := hrow 29 (by decide) (by decide) (by decide) (by decide) (by decide)
  have r35 : (S') 35 = S 35 := hrow 35 (by decide) (by decide) (by decide) (by decide) (by decide)
  have r36 : (S') 36 = S 36 := hrow 36 (by decide) (by decide) (by decide) (by decide) (by decide)
  have r37 : (S') 37 = S 37 := hrow 37 (by decide) (by decide) (by decide) (by decide) (by decide)
  have r38 : (S') 38 = S 38 := hrow 38 (by decide) (by decide) (by decide) (by decide) (by decide)
  have r39 : (S') 39 = S 39 := hrow 39 (by decide) (by decide) (by decide) (by decide) (by decide)
  have r41 : (S') 41 = S 41 := hrow 41 (by decide) (by decide) (by decide) (by decide) (by decide)
  have c1 : (cs0 C a v r g) 1 = C 1 := by rw [cs0, mu_row (by decide), tbS_row (by decide) (by decide)]
  have c3 : (cs0 C a v r g) 3 = C 3 := by rw [cs0, mu_row (by decide), tbS_row (by decide) (by decide)]
  have c4 : (cs0 C a v r g) 4 = C 4 := by rw [cs0, mu_row (by decide), tbS_row (by decide) (by decide)]
  have c5 : (cs0 C a v r g) 5 = C 5 := by rw [cs0, mu_row (by decide), tbS_row (by decide) (by decide)]
  have c9 : (cs0 C a v r g) 9 = C 9 := by rw [cs0, mu_row (by decide), tbS_row (by decide) (by decide)]
  have c10 : (cs0 C a v r g) 10 = C 10 := by rw [cs0, mu_row (by decide), tbS_row (by decide) (by decide)]
  have c11 : (cs0 C a v r g) 11 = C 11 := by rw [cs0, mu_row (by decide), tbS_row (by decide) (by decide)]
  have c12 : (cs0 C a v r g) 12 = C 12 := by rw [cs0, mu_row (by decide), tbS_row (by decide) (by decide)]
  have c15 : (cs0 C a v r g) 15 = C 15 := by rw [cs0, mu_row (by decide), tbS_row (by decide) (by decide)]
  have c16 : (cs0 C a v r g) 16 = C 16 := by rw [cs0, mu_row (by decide), tbS_row (by decide) (by decide)]
  have c17 : (cs0 C a v r g) 17 = C 17 := by rw [cs0, mu_row (by decide), tbS_row (by decide) (by decide)]
  have c18 : (cs0 C a v r g) 18 = C 18 := by rw [cs0, mu_row (by decide), tbS_row (by decide) (by decide)]
  have c22 : (cs0 C a v r g) 22 = C 22 := by rw [cs0, mu_row (by decide), tbS_row (by decide) (by decide)]
  have c23 : (cs0 C a v r g) 23 = C 23 := by rw [cs0, mu_row (by decide), tbS_row (by decide) (by decide)]
  have c27 : (cs0 C a v r g) 27 = C 27 := by rw [cs0, mu_row (by decide), tbS_row (by decide) (by decide)]
  have c34 : (cs0 C a v r g) 34 = C 34 := by rw [cs0, mu_row (by decide), tbS_row (by decide) (by decide)]
  have c35 : (cs0 C a v r g) 35 = C 35 := by rw [cs0, mu_row (by decide), tbS_row (by decide) (by decide)]
  have c36 : (cs0 C a v r g) 36 = C 36 := by rw [cs0, mu_row (by decide), tbS_row (by decide) (by decide)]
  have c37 : (cs0 C a v r g) 37 = C 37 := by rw [cs0, mu_row (by decide), tbS_row (by decide) (by decide)]
  have c38 : (cs0 C a v r g) 38 = C 38 := by rw [cs0, mu_row (by decide), tbS_row (by decide) (by decide)]
  have c50 : (cs0 C a v r g) 50 = C 50 := by rw [cs0, mu_row (by decide), tbS_row (by decide) (by decide)]
  have c51 : (cs0 C a v r g) 51 = C 51 := by rw [cs0, mu_row (by decide), tbS_row (by decide) (by decide)]
  have c52 : (cs0 C a v r g) 52 = C 52 := by rw [cs0, mu_row (by decide), tbS_row (by decide) (by decide)]
  have c53 : (cs0 C a v r g) 53 = C 53 := by rw [cs0, mu_row (by decide), tbS_row (by decide) (by decide)]
  have c54 : (cs0 C a v r g) 54 = C 54 := by rw [cs0, mu_row (by decide), tbS_row (by decide) (by decide)]
  have c55 : (cs0 C a v r g) 55 = C 55 := by rw [cs0, mu_row (by decide), tbS_row (by decide) (by decide)]
  have c56 : (cs0 C a v r g) 56 = C 56 := by rw [cs0, mu_row (by decide), tbS_row (by decide) (by decide)]
  have c57 : (cs0 C a v r g) 57 = C 57 := by rw [cs0, mu_row (by decide), tbS_row (by decide) (by decide)]
  have c58 : (cs0 C a v r g) 58 = C 58 := by rw [cs0, mu_row (by decide), tbS_row (by decide) (by decide)]
  have c60 : (cs0 C a v r g) 60 = C 60 := by rw [cs0, mu_row (by decide), tbS_row (by decide) (by decide)]
  have c62 : (cs0 C a v r g) 62 = C 62 := by rw [cs0, mu_row (by decide), tbS_row (by decide) (by decide)]
  have c63 : (cs0 C a v r g) 63 = C 63 := by rw [cs0, mu_row (by decide), tbS_row (by decide) (by decide)]
  have c64 : (cs0 C a v r g) 64 = C 64 := by rw [cs0, mu_row (by decide), tbS_row (by decide) (by decide)]
  have c65 : (cs0 C a v r g) 65 = C 65 := by rw [cs0, mu_row (by decide), tbS_row (by decide) (by decide)]
  have c67 : (cs0 C a v r g) 67 = C 67 := by rw [cs0, mu_row (by decide), tbS_row (by decide) (by decide)]
  have c68 : (cs0 C a v r g) 68 = C 68 := by rw [cs0, mu_row (by decide), tbS_row (by decide) (by decide)]
  refine ⟨?_, ?_, ?_, ?_, ?_, ?_, ?_, ?_, ?_, ?_⟩
  · exact M1_rows r2 r27 c1 c5 c34 c60 c27 rfl rfl rfl M1
  · intro x hx
    have q := MG x hx
    have d28 : (cs0 C a v r g) 28 x = if x = a then r else C 28 x := by simp [cs0, mu, tbS]
    rw [r3, r9, r10, r15, r16, r17, r18, r22, r23, c3, c9, c10, c15, c16, c17, c18, c22, c23, f28, d28, q.2.2.2.2.2.2.2.2.2]
    exact ⟨q.1, q.2.1, q.2.2.1, q.2.2.2.1, q.2.2.2.2.1, q.2.2.2.2.2.1, q.2.2.2.2.2.2.1, q.2.2.2.2.2.2.2.1, q.2.2.2.2.2.2.2.2.1, rfl⟩
  · exact ME_rows r13 r14 r19 c50 c51 ME
  · exact mC_rows r19 r20 r21 r23 r25 r26 c52 c53 c54 c55 c56 (fun _ => rfl) MC
  · exact MT_rows r23 r25 r26 c57 c58 MT
  · intro x hx
    have q := MK x hx
    have d59 : (cs0 C a v r g) 59 x = if x = a then 8 else C 59 x := by simp [cs0, mu, tbS]
    have d66 : ∀ y, (cs0 C a v r g) 66 y = if 256 * a ≤ y ∧ y < 256 * a + 256 then gUp g a v (y - 256 * a) else C 66 y := fun y => by simp [cs0, mu, tbS]
    rw [f28, d59]
    by_cases z : x = a
    · rw [if_pos z, if_pos z, if_neg hr0]
      refine ⟨rfl, fun _ b hb => ?_⟩
      rw [d66, f31, z, if_pos (by omega), if_pos (by omega), show 256 * a + b - 256 * a = b by omega, show 8 * a + b - 8 * a = b by omega]
      unfold gUp
      by_cases y : b = a
      · rw [if_pos y, if_pos (by omega)]
      · rw [if_neg y, if_neg (by omega)]
    · rw [if_neg z, if_neg z]
      refine ⟨q.1, fun y b hb => ?_⟩
      rw [d66, f31, if_neg (by omega), if_neg (by omega)]
      exact q.2 y b hb
  · exact MO_rows r4 c4 MO
  · exact MP_rows r6 r7 r8 c62 c63 c64 MP
  · exact MQ_rows r10 r11 r12 r29 c11 c12 c65 (fun _ => rfl) MQ
  · exact ML_rows r35 r36 r37 r38 r39 r41 c35 c36 c37 c38 c67 c68 ML
theorem BI_cho {a r : Nat} (hr : r ≤ T) (hrow : ∀ j, j ≠ 28 → j ≠ 30 → j ≠ 31 → j ≠ 32 → j ≠ 33 → S' j = S j) (f28 : ∀ x, S' 28 x = if x = a then nI r else S 28 x) (B : BI S n np nl T) : BI (S') n np nl T := by
  obtain ⟨⟨b1, b2, b3, b4, b5, b6, b7⟩, B3, B2, BP, B4, B8, B26, B9, BN, BA, BC, BT⟩ := B
  have r1 : (S') 1 = S 1 := hrow 1 (by decide) (by decide) (by decide) (by decide) (by decide)
  have r2 : (S') 2 = S 2 := hrow 2 (by decide) (by decide) (by decide) (by decide) (by decide)
  have r3 : (S') 3 = S 3 := hrow 3 (by decide) (by decide) (by decide) (by decide) (by decide)
  have r4 : (S') 4 = S 4 := hrow 4 (by decide) (by decide) (by decide) (by decide) (by decide)
  have r5 : (S') 5 = S 5 := hrow 5 (by decide) (by decide) (by decide) (by decide) (by decide)
  have r6 : (S') 6 = S 6 := hrow 6 (by decide) (by decide) (by decide) (by decide) (by decide)
  have r7 : (S') 7 = S 7 := hrow 7 (by decide) (by decide) (by decide) (by decide) (by decide)
  have r8 : (S') 8 = S 8 := hrow 8 (by decide) (by decide) (by decide) (by decide) (by decide)
  have r9 : (S') 9 = S 9 := hrow 9 (by decide) (by decide) (by decide) (by decide) (by decide)
  have r12 : (S') 12 = S 12 := hrow 12 (by decide) (by decide) (by decide) (by decide) (by decide)
  have r13 : (S') 13 = S 13 := hrow 13 (by decide) (by decide) (by decide) (by decide) (by decide)
  have r14 : (S') 14 = S 14 := hrow 14 (by decide) (by decide) (by decide) (by decide) (by decide)
  have r15 : (S') 15 = S 15 := hrow 15 (by decide) (by decide) (by decide) (by decide) (by decide)
  have r16 : (S') 16 = S 16 := hrow 16 (by decide) (by decide) (by decide) (by decide) (by decide)
  have r19 : (S') 19 = S 19 := hrow 19 (by decide) (by decide) (by decide) (by decide) (by decide)
  have r20 : (S') 20 = S 20 := hrow 20 (by decide) (by decide) (by decide) (by decide) (by decide)
  have r21 : (S') 21 = S 21 := hrow 21 (by decide) (by decide) (by decide) (by decide) (by decide)
  have r23 : (S') 23 = S 23 := hrow 23 (by decide) (by decide) (by decide) (by decide) (by decide)
  have r26 : (S') 26 = S 26 := hrow 26 (by decide) (by decide) (by decide) (by decide) (by decide)
  have r29 : (S') 29 = S 29 := hrow 29 (by decide) (by decide) (by decide) (by decide) (by decide)
  have r34 : (S') 34 = S 34 := hrow 34 (by decide) (by decide) (by decide) (by decide) (by decide)
  refine ⟨⟨by rw [r1]; exact b1, b2, by rw [r5]; exact b3, b4, by rw [r34]; exact b5, b6, by rw [r2]; exact b7⟩, ?_, ?_, ?_, ?_, ?_, ?_, ?_, ?_, ?_, ?_, BT⟩
  · simp only [nn, N]; rw [r3]; exact B3
  · simp only [N]; rw [r3]; exact B2
  · simp only [vnb]; rw [r6, r7, r9]; exact BP
  · simp only [nn, N]; rw [r4]; exact B4
  · simp only [nn, N]; rw [r8]; exact B8
  · simp only [nn, N]; rw [r26]; exact B26
  · rw [r9]; exact B9
  · simp only [vnb]; rw [r9]; exact BN
  · intro x hx
    have g := BA x hx
    simp only [nn, N]
    rw [r12, r13, r14, r15, r16, r19, r21, r23, r29, f28]
    refine ⟨g.1, g.2.1, g.2.2.1, g.2.2.2.1, g.2.2.2.2.1, g.2.2.2.2.2.1, g.2.2.2.2.2.2.1, ?_, g.2.2.2.2.2.2.2.2⟩
    split
    · rw [nI_clamp (by omega)]; exact ⟨rfl, hr⟩
    · exact g.2.2.2.2.2.2.2.1
  · simp only [N]; rw [r20, r21]; exact BC
theorem SIM_chg (h8 : n ≤ 8) {p k v w q : Nat} {c : Int32} {hx : Nat} (B : BI S n np nl T) (hp : p < np) (hk : k < 8) (hpa : S 6 p = nI k ∨ S 7 p = nI k) (hv : v < 4) (hw : w < 4) (hc : isCostS c) (hq : q < 8) (hq5 : sz 5 q = 1) (M : SIM S C n np nl sz hx) : SIM (cg0 S p k v w c q) (mu (mu (mu C 64 (16 * p + (if C 62 p = nI k then 4 * v + w else 4 * w + v)) c) 12 q (C 12 q + 1)) 27 0 0) n np nl (sz) hx := by
  obtain ⟨M1, MG, ME, MC, MT, MK, MO, MP, MQ, ML⟩ := M
  have r2 : (cg0 S p k v w c q) 2 = S 2 := by funext i; simp [cg0, mu]
  have r3 : (cg0 S p k v w c q) 3 = S 3 := by funext i; simp [cg0, mu]
  have r4 : (cg0 S p k v w c q) 4 = S 4 := by funext i; simp [cg0, mu]
  have r6 : (cg0 S p k v w c q) 6 = S 6 := by funext i; simp [cg0, mu]
  have r7 : (cg0 S p k v w c q) 7 = S 7 := by funext i; simp [cg0, mu]
  have r9 : (cg0 S p k v w c q) 9 = S 9 := by funext i; simp [cg0, mu]
  have r10 : (cg0 S p k v w c q) 10 = S 10 := by funext i; simp [cg0, mu]
  have r11 : (cg0 S p k v w c q) 11 = S 11 := by funext i; simp [cg0, mu]
  have r13 : (cg0 S p k v w c q) 13 = S 13 := by funext i; simp [cg0, mu]
  have r14 : (cg0 S p k v w c q) 14 = S 14 := by funext i; simp [cg0, mu]
  have r15 : (cg0 S p k v w c q) 15 = S 15 := by funext i; simp [cg0, mu]
  have r16 : (cg0 S p k v w c q) 16 = S 16 := by funext i; simp [cg0, mu]
  have r17 : (cg0 S p k v w c q) 17 = S 17 := by funext i; simp [cg0, mu]
  have r18 : (cg0 S p k v w c q) 18 = S 18 := by funext i; simp [cg0, mu]
  have r19 : (cg0 S p k v w c q) 19 = S 19 := by funext i; simp [cg0, mu]
  have r20 : (cg0 S p k v w c q) 20 = S 20 := by funext i; simp [cg0, mu]
  have r21 : (cg0 S p k v w c q) 21 = S 21 := by funext i; simp [cg0, mu]
  have r22 : (cg0 S p k v w c q) 22 = S 22 := by funext i; simp [cg0, mu]
  have r23 : (cg0 S p k v w c q) 23 = S 23 := by funext i; simp [cg0, mu]
  have r25 : (cg0 S p k v w c q) 25 = S 25 := by funext i; simp [cg0, mu]
  have r26 : (cg0 S p k v w c q) 26 = S 26 := by funext i; simp [cg0, mu]
  have r28 : (cg0 S p k v w c q) 28 = S 28 := by funext i; simp [cg0, mu]
  have r29 : (cg0 S p k v w c q) 29 = S 29 := by funext i; simp [cg0, mu]
  have r31 : (cg0 S p k v w c q) 31 = S 31 := by funext i; simp [cg0, mu]
  have r35 : (cg0 S p k v w c q) 35 = S 35 := by funext i; simp [cg0, mu]
  have r36 : (cg0 S p k v w c q) 36 = S 36 := by funext i; simp [cg0, mu]
  have r37 : (cg0 S p k v w c q) 37 = S 37 := by funext i; simp [cg0, mu]
  have r38 : (cg0 S p k v w c q) 38 = S 38 := by funext i; simp [cg0, mu]
  have r39 : (cg0 S p k v w c q) 39 = S 39 := by funext i; simp [cg0, mu]
  have r41 : (cg0 S p k v w c q) 41 = S 41 := by funext i; simp [cg0, mu]
  have c1 : (mu (mu (mu C 64 (16 * p + (if C 62 p = nI k then 4 * v + w else 4 * w + v)) c) 12 q (C 12 q + 1)) 27 0 0) 1 = C 1 := by funext i; simp [mu]
  have c3 : (mu (mu (mu C 64 (16 * p + (if C 62 p = nI k then 4 * v + w else 4 * w + v)) c) 12 q (C 12 q + 1)) 27 0 0) 3 = C 3 := by funext i; simp [mu]
  have c4 : (mu (mu (mu C 64 (16 * p + (if C 62 p = nI k then 4 * v + w else 4 * w + v)) c) 12 q (C 12 q + 1)) 27 0 0) 4 = C 4 := by funext i; simp [mu]
  have c5 : (mu (mu (mu C 64 (16 * p + (if C 62 p = nI k then 4 * v + w else 4 * w + v)) c) 12 q (C 12 q + 1)) 27 0 0) 5 = C 5 := by funext i; simp [mu]
  have c9 : (mu (mu (mu C 64 (16 * p + (if C 62 p = nI k then 4 * v + w else 4 * w + v)) c) 12 q (C 12 q + 1)) 27 0 0) 9 = C 9 := by funext i; simp [mu]
  have c10 : (mu (mu (mu C 64 (16 * p + (if C 62 p = nI k then 4 * v + w else 4 * w + v)) c) 12 q (C 12 q + 1)) 27 0 0) 10 = C 10 := by funext i; simp [mu]
  have c11 : (mu (mu (mu C 64 (16 * p + (if C 62 p = nI k then 4 * v + w else 4 * w + v)) c) 12 q (C 12 q + 1)) 27 0 0) 11 = C 11 := by funext i; simp [mu]
  have c15 : (mu (mu (mu C 64 (16 * p + (if C 62 p = nI k then 4 * v + w else 4 * w + v)) c) 12 q (C 12 q + 1)) 27 0 0) 15 = C 15 := by funext i; simp [mu]
  have c16 : (mu (mu (mu C 64 (16 * p + (if C 62 p = nI k then 4 * v + w else 4 * w + v)) c) 12 q (C 12 q + 1)) 27 0 0) 16 = C 16 := by funext i; simp [mu]
  have c17 : (mu (mu (mu C 64 (16 * p + (if C 62 p = nI k then 4 * v + w else 4 * w + v)) c) 12 q (C 12 q + 1)) 27 0 0) 17 = C 17 := by funext i; simp [mu]
  have c18 : (mu (mu (mu C 64 (16 * p + (if C 62 p = nI k then 4 * v + w else 4 * w + v)) c) 12 q (C 12 q + 1)) 27 0 0) 18 = C 18 := by funext i; simp [mu]
  have c22 : (mu (mu (mu C 64 (16 * p + (if C 62 p = nI k then 4 * v + w else 4 * w + v)) c) 12 q (C 12 q + 1)) 27 0 0) 22 = C 22 := by funext i; simp [mu]
  have c23 : (mu (mu (mu C 64 (16 * p + (if C 62 p = nI k then 4 * v + w else 4 * w + v)) c) 12 q (C 12 q + 1)) 27 0 0) 23 = C 23 := by funext i; simp [mu]
  have c28 : (mu (mu (mu C 64 (16 * p + (if C 62 p = nI k then 4 * v + w else 4 * w + v)) c) 12 q (C 12 q + 1)) 27 0 0) 28 = C 28 := by funext i; simp [mu]
  have c34 : (mu (mu (mu C 64 (16 * p + (if C 62 p = nI k then 4 * v + w else 4 * w + v)) c) 12 q (C 12 q + 1)) 27 0 0) 34 = C 34 := by funext i; simp [mu]
  have c35 : (mu (mu (mu C 64 (16 * p + (if C 62 p = nI k then 4 * v + w else 4 * w + v)) c) 12 q (C 12 q + 1)) 27 0 0) 35 = C 35 := by funext i; simp [mu]
  have c36 : (mu (mu (mu C 64 (16 * p + (if C 62 p = nI k then 4 * v + w else 4 * w + v)) c) 12 q (C 12 q + 1)) 27 0 0) 36 = C 36 := by funext i; simp [mu]
  have c37 : (mu (mu (mu C 64 (16 * p + (if C 62 p = nI k then 4 * v + w else 4 * w + v)) c) 12 q (C 12 q + 1)) 27 0 0) 37 = C 37 := by funext i; simp [mu]
  have c38 : (mu (mu (mu C 64 (16 * p + (if C 62 p = nI k then 4 * v + w else 4 * w + v)) c) 12 q (C 12 q + 1)) 27 0 0) 38 = C 38 := by funext i; simp [mu]
  have c50 : (mu (mu (mu C 64 (16 * p + (if C 62 p = nI k then 4 * v + w else 4 * w + v)) c) 12 q (C 12 q + 1)) 27 0 0) 50 = C 50 := by funext i; simp [mu]
  have c51 : (mu (mu (mu C 64 (16 * p + (if C 62 p = nI k then 4 * v + w else 4 * w + v)) c) 12 q (C 12 q + 1)) 27 0 0) 51 = C 51 := by funext i; simp [mu]
  have c52 : (mu (mu (mu C 64 (16 * p + (if C 62 p = nI k then 4 * v + w else 4 * w + v)) c) 12 q (C 12 q + 1)) 27 0 0) 52 = C 52 := by funext i; simp [mu]
  have c53 : (mu (mu (mu C 64 (16 * p + (if C 62 p = nI k then 4 * v + w else 4 * w + v)) c) 12 q (C 12 q + 1)) 27 0 0) 53 = C 53 := by funext i; simp [mu]
  have c54 : (mu (mu (mu C 64 (16 * p + (if C 62 p = nI k then 4 * v + w else 4 * w + v)) c) 12 q (C 12 q + 1)) 27 0 0) 54 = C 54 := by funext i; simp [mu]
  have c55 : (mu (mu (mu C 64 (16 * p + (if C 62 p = nI k then 4 * v + w else 4 * w + v)) c) 12 q (C 12 q + 1)) 27 0 0) 55 = C 55 := by funext i; simp [mu]
  have c56 : (mu (mu (mu C 64 (16 * p + (if C 62 p = nI k then 4 * v + w else 4 * w + v)) c) 12 q (C 12 q + 1)) 27 0 0) 56 = C 56 := by funext i; simp [mu]
  have c57 : (mu (mu (mu C 64 (16 * p + (if C 62 p = nI k then 4 * v + w else 4 * w + v)) c) 12 q (C 12 q + 1)) 27 0 0) 57 = C 57 := by funext i; simp [mu]
  have c58 : (mu (mu (mu C 64 (16 * p + (if C 62 p = nI k then 4 * v + w else 4 * w + v)) c) 12 q (C 12 q + 1)) 27 0 0) 58 = C 58 := by funext i; simp [mu]
  have c59 : (mu (mu (mu C 64 (16 * p + (if C 62 p = nI k then 4 * v + w else 4 * w + v)) c) 12 q (C 12 q + 1)) 27 0 0) 59 = C 59 := by funext i; simp [mu]
  have c60 : (mu (mu (mu C 64 (16 * p + (if C 62 p = nI k then 4 * v + w else 4 * w + v)) c) 12 q (C 12 q + 1)) 27 0 0) 60 = C 60 := by funext i; simp [mu]
  have c62 : (mu (mu (mu C 64 (16 * p + (if C 62 p = nI k then 4 * v + w else 4 * w + v)) c) 12 q (C 12 q + 1)) 27 0 0) 62 = C 62 := by funext i; simp [mu]
  have c63 : (mu (mu (mu C 64 (16 * p + (if C 62 p = nI k then 4 * v + w else 4 * w + v)) c) 12 q (C 12 q + 1)) 27 0 0) 63 = C 63 := by funext i; simp [mu]
  have c65 : (mu (mu (mu C 64 (16 * p + (if C 62 p = nI k then 4 * v + w else 4 * w + v)) c) 12 q (C 12 q + 1)) 27 0 0) 65 = C 65 := by funext i; simp [mu]
  have c66 : (mu (mu (mu C 64 (16 * p + (if C 62 p = nI k then 4 * v + w else 4 * w + v)) c) 12 q (C 12 q + 1)) 27 0 0) 66 = C 66 := by funext i; simp [mu]
  have c67 : (mu (mu (mu C 64 (16 * p + (if C 62 p = nI k then 4 * v + w else 4 * w + v)) c) 12 q (C 12 q + 1)) 27 0 0) 67 = C 67 := by funext i; simp [mu]
  have c68 : (mu (mu (mu C 64 (16 * p + (if C 62 p = nI k then 4 * v + w else 4 * w + v)) c) 12 q (C 12 q + 1)) 27 0 0) 68 = C 68 := by funext i; simp [mu]
  refine ⟨?_, ?_, ?_, ?_, ?_, ?_, ?_, ?_, ?_, ?_⟩
  · obtain ⟨m1, m2, m3, m4, m5, m6, m7, m8⟩ := M1
    exact ⟨by rw [c1]; exact m1, by rw [c5]; exact m2, by rw [c34]; exact m3, by rw [c60, r2]; exact m4, by simp [cg0, mu], m6, m7, m8⟩
  · exact MG_rows r3 r9 r10 r15 r16 r17 r18 r22 r23 r28 c3 c9 c10 c15 c16 c17 c18 c22 c23 c28 MG
  · exact ME_rows r13 r14 r19 c50 c51 ME
  · exact mC_rows r19 r20 r21 r23 r25 r26 c52 c53 c54 c55 c56 (fun _ => rfl) MC
  · exact MT_rows r23 r25 r26 c57 c58 MT
  · exact MK_rows r28 r31 c59 c66 MK
  · exact MO_rows r4 c4 MO
  · refine mP_cost MP (bi_fg B) hp hk hpa hv hw hc r6 r7 (by funext i; simp [cg0, mu]) c62 c63 (by funext i; simp [mu]) (fun f g q1 q2 hf hg e => ?_)
    obtain ⟨f', g', h1, h2, h3, h4, h5⟩ := B.2.2.2.1 p hp
    have n8 := B.1.2.1
    have z1 : f = f' := nI_inj (by omega) (by omega) (q1.symm.trans h3)
    have z2 : g = g' := nI_inj (by omega) (by omega) (q2.symm.trans h4)
    exact (B.2.2.2.2.2.2.2.2.1 _ _ h5).2.1 (by omega)
  · refine ⟨by rw [r10]; exact MQ.1, fun y hy e => ?_⟩
    have g := MQ.2 y hy e
    have n11 : N (cg0 S p k v w c q) 11 y = N S 11 y := by simp only [N, r11]
    have e12 : (cg0 S p k v w c q) 12 y = if y = q then S 12 q + 1 else S 12 y := by simp [cg0, mu]
    have d12 : (mu (mu (mu C 64 (16 * p + (if C 62 p = nI k then 4 * v + w else 4 * w + v)) c) 12 q (C 12 q + 1)) 27 0 0) 12 y = if y = q then C 12 q + 1 else C 12 y := by simp [mu]
    rw [c11, c65, r11, n11, r29, e12, d12, g.2.1, (MQ.2 q hq hq5).2.1]
    exact ⟨g.1, rfl, g.2.2⟩
  · exact ML_rows r35 r36 r37 r38 r39 r41 c35 c36 c37 c38 c67 c68 ML
theorem BI_chg {p k v w q : Nat} {c : Int32} (hp : p < np) (hv : v < 4) (hw : w < 4) (hc : isCostS c) (hT2 : T + 1 < 2 ^ 30) (B : BI S n np nl T) : BI (cg0 S p k v w c q) n np nl (T + 1) := by
  obtain ⟨⟨b1, b2, b3, b4, b5, b6, b7⟩, B3, B2, BP, B4, B8, B26, B9, BN, BA, BC, BT⟩ := B
  have r1 : (cg0 S p k v w c q) 1 = S 1 := by funext i; simp [cg0, mu]
  have r2 : (cg0 S p k v w c q) 2 = S 2 := by funext i; simp [cg0, mu]
  have r3 : (cg0 S p k v w c q) 3 = S 3 := by funext i; simp [cg0, mu]
  have r4 : (cg0 S p k v w c q) 4 = S 4 := by funext i; simp [cg0, mu]
  have r5 : (cg0 S p k v w c q) 5 = S 5 := by funext i; simp [cg0, mu]
  have r6 : (cg0 S p k v w c q) 6 = S 6 := by funext i; simp [cg0, mu]
  have r7 : (cg0 S p k v w c q) 7 = S 7 := by funext i; simp [cg0, mu]
  have r9 : (cg0 S p k v w c q) 9 = S 9 := by funext i; simp [cg0, mu]
  have r13 : (cg0 S p k v w c q) 13 = S 13 := by funext i; simp [cg0, mu]
  have r14 : (cg0 S p k v w c q) 14 = S 14 := by funext i; simp [cg0, mu]
  have r15 : (cg0 S p k v w c q) 15 = S 15 := by funext i; simp [cg0, mu]
  have r16 : (cg0 S p k v w c q) 16 = S 16 := by funext i; simp [cg0, mu]
  have r19 : (cg0 S p k v w c q) 19 = S 19 := by funext i; simp [cg0, mu]
  have r20 : (cg0 S p k v w c q) 20 = S 20 := by funext i; simp [cg0, mu]
  have r21 : (cg0 S p k v w c q) 21 = S 21 := by funext i; simp [cg0, mu]
  have r23 : (cg0 S p k v w c q) 23 = S 23 := by funext i; simp [cg0, mu]
  have r26 : (cg0 S p k v w c q) 26 = S 26 := by funext i; simp [cg0, mu]
  have r28 : (cg0 S p k v w c q) 28 = S 28 := by funext i; simp [cg0, mu]
  have r29 : (cg0 S p k v w c q) 29 = S 29 := by funext i; simp [cg0, mu]
  have r34 : (cg0 S p k v w c q) 34 = S 34 := by funext i; simp [cg0, mu]
  refine ⟨⟨by rw [r1]; exact b1, b2, by rw [r5]; exact b3, b4, by rw [r34]; exact b5, b6, by rw [r2]; exact b7⟩, ?_, ?_, ?_, ?_, ?_, ?_, ?_, ?_, ?_, ?_, hT2⟩
  · simp only [nn, N]; rw [r3]; exact B3
  · simp only [N]; rw [r3]; exact B2
  · simp only [vnb]; rw [r6, r7, r9]; exact BP
  · simp only [nn, N]; rw [r4]; exact B4
  · exact b8_cost (p := p) (a := k) (v := v) (w := w) (c := c) (by omega) hv hw hc B8 (by funext i; simp [cg0, mu])
  · simp only [nn, N]; rw [r26]; exact B26
  · rw [r9]; exact B9
  · simp only [vnb]; rw [r9]; exact BN
  · intro x hx
    have g := BA x hx
    have e12 : (cg0 S p k v w c q) 12 x = if x = q then S 12 q + 1 else S 12 x := by simp [cg0, mu]
    simp only [nn, N]
    rw [r13, r14, r15, r16, r19, r21, r23, r28, r29, e12]
    have up : ∀ {y : Int32}, y = nI y.toNatClampNeg ∧ y.toNatClampNeg ≤ T → y = nI y.toNatClampNeg ∧ y.toNatClampNeg ≤ T + 1 := fun z => ⟨z.1, by omega⟩
    refine ⟨g.1, g.2.1, g.2.2.1, g.2.2.2.1, g.2.2.2.2.1, g.2.2.2.2.2.1, ?_, up g.2.2.2.2.2.2.2.1, up g.2.2.2.2.2.2.2.2.1, up g.2.2.2.2.2.2.2.2.2.1, up g.2.2.2.2.2.2.2.2.2.2⟩
    split
    · rename_i z
      have z2 := g.2.2.2.2.2.2.1
      have z3 : S 12 x = nI (S 12 x).toNatClampNeg ∧ (S 12 x).toNatClampNeg ≤ T := z2
      rw [← z, z3.1, nI_1, nI_clamp (by omega)]
      exact ⟨rfl, by omega⟩
    · exact up g.2.2.2.2.2.2.1
  · simp only [N]; rw [r20, r21]; exact BC
end
