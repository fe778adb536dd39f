/-! SIMULATION S3. Laid by wip/whole/gen/p71.py -/
section
variable {S C T D : mS} {n np nl : Nat} {sz sz' : Nat → Nat → Nat} {hx : Nat}
theorem M1_rows (h2 : T 2 = S 2) (h27 : T 27 = S 27) (c1 : D 1 = C 1) (c5 : D 5 = C 5) (c34 : D 34 = C 34) (c60 : D 60 = C 60) (c27 : D 27 = C 27) (z1 : sz' 1 0 = sz 1 0) (z6 : sz' 6 0 = sz 6 0) (z8 : sz' 8 0 = sz 8 0) (h : mA1 S C n np nl sz) : mA1 T D n np nl sz' := by
  unfold mA1 at *; rw [h2, h27, c1, c5, c34, c60, c27, z1, z6, z8]; exact h
theorem MG_rows (h3 : T 3 = S 3) (h9 : T 9 = S 9) (h10 : T 10 = S 10) (h15 : T 15 = S 15) (h16 : T 16 = S 16) (h17 : T 17 = S 17) (h18 : T 18 = S 18) (h22 : T 22 = S 22) (h23 : T 23 = S 23) (h28 : T 28 = S 28) (c3 : D 3 = C 3) (c9 : D 9 = C 9) (c10 : D 10 = C 10) (c15 : D 15 = C 15) (c16 : D 16 = C 16) (c17 : D 17 = C 17) (c18 : D 18 = C 18) (c22 : D 22 = C 22) (c23 : D 23 = C 23) (c28 : D 28 = C 28) (h : mG S C n) : mG T D n := by
  unfold mG at *; rw [h3, h9, h10, h15, h16, h17, h18, h22, h23, h28, c3, c9, c10, c15, c16, c17, c18, c22, c23, c28]; exact h
theorem ME_rows (h13 : T 13 = S 13) (h14 : T 14 = S 14) (h19 : T 19 = S 19) (c50 : D 50 = C 50) (c51 : D 51 = C 51) (h : mE S C n hx) : mE T D n hx := by
  unfold mE stg at *; rw [h13, h14, h19, c50, c51]; exact h
theorem MT_rows (h23 : T 23 = S 23) (h25 : T 25 = S 25) (h26 : T 26 = S 26) (c57 : D 57 = C 57) (c58 : D 58 = C 58) (h : mT S C n) : mT T D n := by
  unfold mT N at *; rw [h23, h25, h26, c57, c58]; exact h
theorem MK_rows (h28 : T 28 = S 28) (h31 : T 31 = S 31) (c59 : D 59 = C 59) (c66 : D 66 = C 66) (h : mK S C n) : mK T D n := by
  unfold mK at *; rw [h28, h31, c59, c66]; exact h
theorem MO_rows (h4 : T 4 = S 4) (c4 : D 4 = C 4) (h : mO S C n) : mO T D n := by
  unfold mO at *; rw [h4, c4]; exact h
theorem MP_rows (h6 : T 6 = S 6) (h7 : T 7 = S 7) (h8 : T 8 = S 8) (c62 : D 62 = C 62) (c63 : D 63 = C 63) (c64 : D 64 = C 64) (h : mP S C np) : mP T D np := by
  unfold mP at *; rw [h6, h7, h8, c62, c63, c64]; exact h
theorem MQ_rows (h10 : T 10 = S 10) (h11 : T 11 = S 11) (h12 : T 12 = S 12) (h29 : T 29 = S 29) (c11 : D 11 = C 11) (c12 : D 12 = C 12) (c65 : D 65 = C 65) (z5 : ∀ q, sz' 5 q = sz 5 q) (h : mQ S C n sz) : mQ T D n sz' := by
  unfold mQ N at *; rw [h10, h11, h12, h29, c11, c12, c65]; simp only [z5]; exact h
theorem ML_rows (h35 : T 35 = S 35) (h36 : T 36 = S 36) (h37 : T 37 = S 37) (h38 : T 38 = S 38) (h39 : T 39 = S 39) (h41 : T 41 = S 41) (c35 : D 35 = C 35) (c36 : D 36 = C 36) (c37 : D 37 = C 37) (c38 : D 38 = C 38) (c67 : D 67 = C 67) (c68 : D 68 = C 68) (h : mL S C nl) : mL T D nl := by
  unfold mL mL1 N at *; rw [h35, h36, h37, h38, h39, h41, c35, c36, c37, c38, c67, c68]; exact h
end
section
variable {S C : mS} {n np nl T : Nat} {sz : Nat → Nat → Nat} {A : Rl} {dd : Nat → Nat} {hh : Nat → Prop}
theorem SIM_tok (h8 : n ≤ 8) {a : Nat} {s m : Int32} (ha : a < n) (h13 : S 13 a = 0) (M : SIM S C n np nl sz 8) : SIM (rt0 S a s m) (tk0 C a s m) n np nl (sz) a := by
  obtain ⟨M1, MG, ME, MC, MT, MK, MO, MP, MQ, ML⟩ := M
  have r2 : (rt0 S a s m) 2 = S 2 := by funext i; simp [rt0, mu]
  have r3 : (rt0 S a s m) 3 = S 3 := by funext i; simp [rt0, mu]
  have r4 : (rt0 S a s m) 4 = S 4 := by funext i; simp [rt0, mu]
  have r6 : (rt0 S a s m) 6 = S 6 := by funext i; simp [rt0, mu]
  have r7 : (rt0 S a s m) 7 = S 7 := by funext i; simp [rt0, mu]
  have r8 : (rt0 S a s m) 8 = S 8 := by funext i; simp [rt0, mu]
  have r9 : (rt0 S a s m) 9 = S 9 := by funext i; simp [rt0, mu]
  have r10 : (rt0 S a s m) 10 = S 10 := by funext i; simp [rt0, mu]
  have r11 : (rt0 S a s m) 11 = S 11 := by funext i; simp [rt0, mu]
  have r12 : (rt0 S a s m) 12 = S 12 := by funext i; simp [rt0, mu]
  have r14 : (rt0 S a s m) 14 = S 14 := by funext i; simp [rt0, mu]
  have r15 : (rt0 S a s m) 15 = S 15 := by funext i; simp [rt0, mu]
  have r19 : (rt0 S a s m) 19 = S 19 := by funext i; simp [rt0, mu]
  have r20 : (rt0 S a s m) 20 = S 20 := by funext i; simp [rt0, mu]
  have r21 : (rt0 S a s m) 21 = S 21 := by funext i; simp [rt0, mu]
  have r22 : (rt0 S a s m) 22 = S 22 := by funext i; simp [rt0, mu]
  have r23 : (rt0 S a s m) 23 = S 23 := by funext i; simp [rt0, mu]
  have r25 : (rt0 S a s m) 25 = S 25 := by funext i; simp [rt0, mu]
  have r26 : (rt0 S a s m) 26 = S 26 := by funext i; simp [rt0, mu]
  have r27 : (rt0 S a s m) 27 = S 27 := by funext i; simp [rt0, mu]
  have r28 : (rt0 S a s m) 28 = S 28 := by funext i; simp [rt0, mu]
  have r29 : (rt0 S a s m) 29 = S 29 := by funext i; simp [rt0, mu]
  have r31 : (rt0 S a s m) 31 = S 31 := by funext i; simp [rt0, mu]
  have r35 : (rt0 S a s m) 35 = S 35 := by funext i; simp [rt0, mu]
  have r36 : (rt0 S a s m) 36 = S 36 := by funext i; simp [rt0, mu]
  have r37 : (rt0 S a s m) 37 = S 37 := by funext i; simp [rt0, mu]
  have r38 : (rt0 S a s m) 38 = S 38 := by funext i; simp [rt0, mu]
  have r39 : (rt0 S a s m) 39 = S 39 := by funext i; simp [rt0, mu]
  have r41 : (rt0 S a s m) 41 = S 41 := by funext i; simp [rt0, mu]
  have c1 : (tk0 C a s m) 1 = C 1 := by funext i; simp [tk0, mu]
  have c3 : (tk0 C a s m) 3 = C 3 := by funext i; simp [tk0, mu]
  have c4 : (tk0 C a s m) 4 = C 4 := by funext i; simp [tk0, mu]
  have c5 : (tk0 C a s m) 5 = C 5 := by funext i; simp [tk0, mu]
  have c9 : (tk0 C a s m) 9 = C 9 := by funext i; simp [tk0, mu]
  have c10 : (tk0 C a s m) 10 = C 10 := by funext i; simp [tk0, mu]
  have c11 : (tk0 C a s m) 11 = C 11 := by funext i; simp [tk0, mu]
  have c12 : (tk0 C a s m) 12 = C 12 := by funext i; simp [tk0, mu]
  have c15 : (tk0 C a s m) 15 = C 15 := by funext i; simp [tk0, mu]
  have c22 : (tk0 C a s m) 22 = C 22 := by funext i; simp [tk0, mu]
  have c23 : (tk0 C a s m) 23 = C 23 := by funext i; simp [tk0, mu]
  have c27 : (tk0 C a s m) 27 = C 27 := by funext i; simp [tk0, mu]
  have c28 : (tk0 C a s m) 28 = C 28 := by funext i; simp [tk0, mu]
  have c34 : (tk0 C a s m) 34 = C 34 := by funext i; simp [tk0, mu]
  have c35 : (tk0 C a s m) 35 = C 35 := by funext i; simp [tk0, mu]
  have c36 : (tk0 C a s m) 36 = C 36 := by funext i; simp [tk0, mu]
  have c37 : (tk0 C a s m) 37 = C 37 := by funext i; simp [tk0, mu]
  have c38 : (tk0 C a s m) 38 = C 38 := by funext i; simp [tk0, mu]
  have c50 : (tk0 C a s m) 50 = C 50 := by funext i; simp [tk0, mu]
  have c51 : (tk0 C a s m) 51 = C 51 := by funext i; simp [tk0, mu]
  have c52 : (tk0 C a s m) 52 = C 52 := by funext i; simp [tk0, mu]
  have c53 : (tk0 C a s m) 53 = C 53 := by funext i; simp [tk0, mu]
  have c54 : (tk0 C a s m) 54 = C 54 := by funext i; simp [tk0, mu]
  have c55 : (tk0 C a s m) 55 = C 55 := by funext i; simp [tk0, mu]
  have c56 : (tk0 C a s m) 56 = C 56 := by funext i; simp [tk0, mu]
  have c57 : (tk0 C a s m) 57 = C 57 := by funext i; simp [tk0, mu]
  have c58 : (tk0 C a s m) 58 = C 58 := by funext i; simp [tk0, mu]
  have c59 : (tk0 C a s m) 59 = C 59 := by funext i; simp [tk0, mu]
  have c60 : (tk0 C a s m) 60 = C 60 := by funext i; simp [tk0, mu]
  have c62 : (tk0 C a s m) 62 = C 62 := by funext i; simp [tk0, mu]
  have c63 : (tk0 C a s m) 63 = C 63 := by funext i; simp [tk0, mu]
  have c64 : (tk0 C a s m) 64 = C 64 := by funext i; simp [tk0, mu]
  have c65 : (tk0 C a s m) 65 = C 65 := by funext i; simp [tk0, mu]
  have c66 : (tk0 C a s m) 66 = C 66 := by funext i; simp [tk0, mu]
  have c67 : (tk0 C a s m) 67 = C 67 := by funext i; simp [tk0, mu]
  have c68 : (tk0 C a s m) 68 = C 68 := by funext i; simp [tk0, mu]
  refine ⟨?_, ?_, ?_, ?_, ?_, ?_, ?_, ?_, ?_, ?_⟩
  · exact M1_rows r2 r27 c1 c5 c34 c60 c27 rfl rfl rfl M1
  · intro x hx
    have g := MG x hx
    have e16 : (rt0 S a s m) 16 x = if x = a then s else S 16 x := by simp [rt0, mu]
    have e17 : (rt0 S a s m) 17 x = if x = a then (S 9 a &&& m) else S 17 x := by simp [rt0, mu]
    have e18 : (rt0 S a s m) 18 x = if x = a then (m ||| 1 <<< (nI a &&& 31)) else S 18 x := by simp [rt0, mu]
    have d16 : (tk0 C a s m) 16 x = if x = a then s else C 16 x := by simp [tk0, mu]
    have d17 : (tk0 C a s m) 17 x = if x = a then (C 9 a &&& m) else C 17 x := by simp [tk0, mu]
    have d18 : (tk0 C a s m) 18 x = if x = a then (m ||| 1 <<< (nI a &&& 31)) else C 18 x := by simp [tk0, mu]
    rw [r3, r9, r10, r15, r22, r23, r28, c3, c9, c10, c15, c22, c23, c28, e16, e17, e18, d16, d17, d18, (MG a ha).2.1, g.2.2.2.2.1, g.2.2.2.2.2.1, g.2.2.2.2.2.2.1]
    exact ⟨g.1, g.2.1, g.2.2.1, g.2.2.2.1, rfl, rfl, rfl, g.2.2.2.2.2.2.2⟩
  · intro x hx
    have g := ME x hx
    rw [c50, c51, r19]
    refine ⟨fun q => ?_, g.2⟩
    have e13 : (rt0 S a s m) 13 x = S 13 x := by simp [rt0, mu, q]
    unfold stg; rw [e13, r14]; exact g.1 (fun e => by rw [e] at hx; exact absurd hx (by omega))
  · exact mC_rows r19 r20 r21 r23 r25 r26 c52 c53 c54 c55 c56 (fun _ => rfl) MC
  · exact MT_rows r23 r25 r26 c57 c58 MT
  · exact MK_rows r28 r31 c59 c66 MK
  · exact MO_rows r4 c4 MO
  · exact MP_rows r6 r7 r8 c62 c63 c64 MP
  · exact MQ_rows r10 r11 r12 r29 c11 c12 c65 (fun _ => rfl) MQ
  · exact ML_rows r35 r36 r37 r38 r39 r41 c35 c36 c37 c38 c67 c68 ML
theorem BI_tok {a : Nat} {s m : Int32} (ha : a < n) (hs : s = -1 ∨ ∃ b, b < n ∧ s = nI b) (B : BI S n np nl T) : BI (rt0 S a s m) n np nl T := by
  obtain ⟨⟨b1, b2, b3, b4, b5, b6, b7⟩, B3, B2, BP, B4, B8, B26, B9, BN, BA, BC, BT⟩ := B
  have r1 : (rt0 S a s m) 1 = S 1 := by funext i; simp [rt0, mu]
  have r2 : (rt0 S a s m) 2 = S 2 := by funext i; simp [rt0, mu]
  have r3 : (rt0 S a s m) 3 = S 3 := by funext i; simp [rt0, mu]
  have r4 : (rt0 S a s m) 4 = S 4 := by funext i; simp [rt0, mu]
  have r5 : (rt0 S a s m) 5 = S 5 := by funext i; simp [rt0, mu]
  have r6 : (rt0 S a s m) 6 = S 6 := by funext i; simp [rt0, mu]
  have r7 : (rt0 S a s m) 7 = S 7 := by funext i; simp [rt0, mu]
  have r8 : (rt0 S a s m) 8 = S 8 := by funext i; simp [rt0, mu]
  have r9 : (rt0 S a s m) 9 = S 9 := by funext i; simp [rt0, mu]
  have r12 : (rt0 S a s m) 12 = S 12 := by funext i; simp [rt0, mu]
  have r14 : (rt0 S a s m) 14 = S 14 := by funext i; simp [rt0, mu]
  have r15 : (rt0 S a s m) 15 = S 15 := by funext i; simp [rt0, mu]
  have r19 : (rt0 S a s m) 19 = S 19 := by funext i; simp [rt0, mu]
  have r20 : (rt0 S a s m) 20 = S 20 := by funext i; simp [rt0, mu]
  have r21 : (rt0 S a s m) 21 = S 21 := by funext i; simp [rt0, mu]
  have r23 : (rt0 S a s m) 23 = S 23 := by funext i; simp [rt0, mu]
  have r26 : (rt0 S a s m) 26 = S 26 := by funext i; simp [rt0, mu]
  have r28 : (rt0 S a s m) 28 = S 28 := by funext i; simp [rt0, mu]
  have r29 : (rt0 S a s m) 29 = S 29 := by funext i; simp [rt0, mu]
  have r34 : (rt0 S a s m) 34 = S 34 := by funext i; simp [rt0, mu]
  refine ⟨⟨by rw [r1]; exact b1, b2, by rw [r5]; exact b3, b4, by rw [r34]; exact b5, b6, by rw [r2]; exact b7⟩, ?_, ?_, ?_, ?_, ?_, ?_, ?_, ?_, ?_, ?_, BT⟩
  · simp only [nn, N]; rw [r3]; exact B3
  · simp only [N]; rw [r3]; exact B2
  · simp only [vnb]; rw [r6, r7, r9]; exact BP
  · simp only [nn, N]; rw [r4]; exact B4
  · simp only [nn, N]; rw [r8]; exact B8
  · simp only [nn, N]; rw [r26]; exact B26
  · rw [r9]; exact B9
  · simp only [vnb]; rw [r9]; exact BN
  · intro x hx
    have g := BA x hx
    have e13 : (rt0 S a s m) 13 x = if x = a then 1 else S 13 x := by simp [rt0, mu]
    have e16 : (rt0 S a s m) 16 x = if x = a then s else S 16 x := by simp [rt0, mu]
    simp only [nn, N]
    rw [r12, r14, r15, r19, r21, r23, r28, r29, e13, e16]
    refine ⟨?_, g.2.1, g.2.2.1, ?_, g.2.2.2.2⟩
    · split
      · exact Or.inr rfl
      · exact g.1
    · split
      · exact hs
      · exact g.2.2.2.1
  · simp only [N]; rw [r20, r21]; exact BC
theorem SIM_root (h8 : n ≤ 8) {a : Nat} (ha : a < n) (h16 : S 16 a = -1) (h17 : S 17 a = 0) (M : SIM S C n np nl sz 8) : SIM (rt0 S a (-1) 0) (mu C 18 a (1 <<< (nI a &&& 31))) n np nl (sz) a := by
  obtain ⟨M1, MG, ME, MC, MT, MK, MO, MP, MQ, ML⟩ := M
  have r2 : (rt0 S a (-1) 0) 2 = S 2 := by funext i; simp [rt0, mu]
  have r3 : (rt0 S a (-1) 0) 3 = S 3 := by funext i; simp [rt0, mu]
  have r4 : (rt0 S a (-1) 0) 4 = S 4 := by funext i; simp [rt0, mu]
  have r6 : (rt0 S a (-1) 0) 6 = S 6 := by funext i; simp [rt0, mu]
  have r7 : (rt0 S a (-1) 0) 7 = S 7 := by funext i; simp [rt0, mu]
  have r8 : (rt0 S a (-1) 0) 8 = S 8 := by funext i; simp [rt0, mu]
  have r9 : (rt0 S a (-1) 0) 9 = S 9 := by funext i; simp [rt0, mu]
  have r10 : (rt0 S a (-1) 0) 10 = S 10 := by funext i; simp [rt0, mu]
  have r11 : (rt0 S a (-1) 0) 11 = S 11 := by funext i; simp [rt0, mu]
  have r12 : (rt0 S a (-1) 0) 12 = S 12 := by funext i; simp [rt0, mu]
  have r14 : (rt0 S a (-1) 0) 14 = S 14 := by funext i; simp [rt0, mu]
  have r15 : (rt0 S a (-1) 0) 15 = S 15 := by funext i; simp [rt0, mu]
  have r19 : (rt0 S a (-1) 0) 19 = S 19 := by funext i; simp [rt0, mu]
  have r20 : (rt0 S a (-1) 0) 20 = S 20 := by funext i; simp [rt0, mu]
  have r21 : (rt0 S a (-1) 0) 21 = S 21 := by funext i; simp [rt0, mu]
  have r22 : (rt0 S a (-1) 0) 22 = S 22 := by funext i; simp [rt0, mu]
  have r23 : (rt0 S a (-1) 0) 23 = S 23 := by funext i; simp [rt0, mu]
  have r25 : (rt0 S a (-1) 0) 25 = S 25 := by funext i; simp [rt0, mu]
  have r26 : (rt0 S a (-1) 0) 26 = S 26 := by funext i; simp [rt0, mu]
  have r27 : (rt0 S a (-1) 0) 27 = S 27 := by funext i; simp [rt0, mu]
  have r28 : (rt0 S a (-1) 0) 28 = S 28 := by funext i; simp [rt0, mu]
  have r29 : (rt0 S a (-1) 0) 29 = S 29 := by funext i; simp [rt0, mu]
  have r31 : (rt0 S a (-1) 0) 31 = S 31 := by funext i; simp [rt0, mu]
  have r35 : (rt0 S a (-1) 0) 35 = S 35 := by funext i; simp [rt0, mu]
  have r36 : (rt0 S a (-1) 0) 36 = S 36 := by funext i; simp [rt0, mu]
  have r37 : (rt0 S a (-1) 0) 37 = S 37 := by funext i; simp [rt0, mu]
  have r38 : (rt0 S a (-1) 0) 38 = S 38 := by funext i; simp [rt0, mu]
  have r39 : (rt0 S a (-1) 0) 39 = S 39 := by funext i; simp [rt0, mu]
  have r41 : (rt0 S a (-1) 0) 41 = S 41 := by funext i; simp [rt0, mu]
  have c1 : (mu C 18 a (1 <<< (nI a &&& 31))) 1 = C 1 := by funext i; simp [mu]
  have c3 : (mu C 18 a (1 <<< (nI a &&& 31))) 3 = C 3 := by funext i; simp [mu]
  have c4 : (mu C 18 a (1 <<< (nI a &&& 31))) 4 = C 4 := by funext i; simp [mu]
  have c5 : (mu C 18 a (1 <<< (nI a &&& 31))) 5 = C 5 := by funext i; simp [mu]
  have c9 : (mu C 18 a (1 <<< (nI a &&& 31))) 9 = C 9 := by funext i; simp [mu]
  have c10 : (mu C 18 a (1 <<< (nI a &&& 31))) 10 = C 10 := by funext i; simp [mu]
  have c11 : (mu C 18 a (1 <<< (nI a &&& 31))) 11 = C 11 := by funext i; simp [mu]
  have c12 : (mu C 18 a (1 <<< (nI a &&& 31))) 12 = C 12 := by funext i; simp [mu]
  have c15 : (mu C 18 a (1 <<< (nI a &&& 31))) 15 = C 15 := by funext i; simp [mu]
  have c16 : (mu C 18 a (1 <<< (nI a &&& 31))) 16 = C 16 := by funext i; simp [mu]
  have c17 : (mu C 18 a (1 <<< (nI a &&& 31))) 17 = C 17 := by funext i; simp [mu]
  have c22 : (mu C 18 a (1 <<< (nI a &&& 31))) 22 = C 22 := by funext i; simp [mu]
  have c23 : (mu C 18 a (1 <<< (nI a &&& 31))) 23 = C 23 := by funext i; simp [mu]
  have c27 : (mu C 18 a (1 <<< (nI a &&& 31))) 27 = C 27 := by funext i; simp [mu]
  have c28 : (mu C 18 a (1 <<< (nI a &&& 31))) 28 = C 28 := by funext i; simp [mu]
  have c34 : (mu C 18 a (1 <<< (nI a &&& 31))) 34 = C 34 := by funext i; simp [mu]
  have c35 : (mu C 18 a (1 <<< (nI a &&& 31))) 35 = C 35 := by funext i; simp [mu]
  have c36 : (mu C 18 a (1 <<< (nI a &&& 31))) 36 = C 36 := by funext i; simp [mu]
  have c37 : (mu C 18 a (1 <<< (nI a &&& 31))) 37 = C 37 := by funext i; simp [mu]
  have c38 : (mu C 18 a (1 <<< (nI a &&& 31))) 38 = C 38 := by funext i; simp [mu]
  have c50 : (mu C 18 a (1 <<< (nI a &&& 31))) 50 = C 50 := by funext i; simp [mu]
  have c51 : (mu C 18 a (1 <<< (nI a &&& 31))) 51 = C 51 := by funext i; simp [mu]
  have c52 : (mu C 18 a (1 <<< (nI a &&& 31))) 52 = C 52 := by funext i; simp [mu]
  have c53 : (mu C 18 a (1 <<< (nI a &&& 31))) 53 = C 53 := by funext i; simp [mu]
  have c54 : (mu C 18 a (1 <<< (nI a &&& 31))) 54 = C 54 := by funext i; simp [mu]
  have c55 : (mu C 18 a (1 <<< (nI a &&& 31))) 55 = C 55 := by funext i; simp [mu]
  have c56 : (mu C 18 a (1 <<< (nI a &&& 31))) 56 = C 56 := by funext i; simp [mu]
  have c57 : (mu C 18 a (1 <<< (nI a &&& 31))) 57 = C 57 := by funext i; simp [mu]
  have c58 : (mu C 18 a (1 <<< (nI a &&& 31))) 58 = C 58 := by funext i; simp [mu]
  have c59 : (mu C 18 a (1 <<< (nI a &&& 31))) 59 = C 59 := by funext i; simp [mu]
  have c60 : (mu C 18 a (1 <<< (nI a &&& 31))) 60 = C 60 := by funext i; simp [mu]
  have c62 : (mu C 18 a (1 <<< (nI a &&& 31))) 62 = C 62 := by funext i; simp [mu]
  have c63 : (mu C 18 a (1 <<< (nI a &&& 31))) 63 = C 63 := by funext i; simp [mu]
  have c64 : (mu C 18 a (1 <<< (nI a &&& 31))) 64 = C 64 := by funext i; simp [mu]
  have c65 : (mu C 18 a (1 <<< (nI a &&& 31))) 65 = C 65 := by funext i; simp [mu]
  have c66 : (mu C 18 a (1 <<< (nI a &&& 31))) 66 = C 66 := by funext i; simp [mu]
  have c67 : (mu C 18 a (1 <<< (nI a &&& 31))) 67 = C 67 := by funext i; simp [mu]
  have c68 : (mu C 18 a (1 <<< (nI a &&& 31))) 68 = C 68 := by funext i; simp [mu]
  refine ⟨?_, ?_, ?_, ?_, ?_, ?_, ?_, ?_, ?_, ?_⟩
  · exact M1_rows r2 r27 c1 c5 c34 c60 c27 rfl rfl rfl M1
  · intro x hx
    have g := MG x hx
    have e16 : (rt0 S a (-1) 0) 16 x = S 16 x := by
      by_cases q : x = a
      · rw [q, h16]; simp [rt0, mu]
      · simp [rt0, mu, q]
    have e17 : (rt0 S a (-1) 0) 17 x = S 17 x := by
      by_cases q : x = a
      · rw [q, h17]; simp [rt0, mu]
      · simp [rt0, mu, q]
    have e18 : (rt0 S a (-1) 0) 18 x = if x = a then (1 <<< (nI a &&& 31)) else S 18 x := by simp [rt0, mu]
    have d18 : (mu C 18 a (1 <<< (nI a &&& 31))) 18 x = if x = a then (1 <<< (nI a &&& 31)) else C 18 x := by simp [mu]
    rw [r3, r9, r10, r15, r22, r23, r28, c3, c9, c10, c15, c16, c17, c22, c23, c28, e16, e17, e18, d18, g.2.2.2.2.2.2.1]
    exact ⟨g.1, g.2.1, g.2.2.1, g.2.2.2.1, g.2.2.2.2.1, g.2.2.2.2.2.1, rfl, g.2.2.2.2.2.2.2⟩
  · intro x hx
    have g := ME x hx
    rw [c50, c51, r19]
    refine ⟨fun q => ?_, g.2⟩
    have e13 : (rt0 S a (-1) 0) 13 x = S 13 x := by simp [rt0, mu, q]
    unfold stg; rw [e13, r14]; exact g.1 (fun e => by rw [e] at hx; exact absurd hx (by omega))
  · exact mC_rows r19 r20 r21 r23 r25 r26 c52 c53 c54 c55 c56 (fun _ => rfl) MC
  · exact MT_rows r23 r25 r26 c57 c58 MT
  · exact MK_rows r28 r31 c59 c66 MK
  · exact MO_rows r4 c4 MO
  · exact MP_rows r6 r7 r8 c62 c63 c64 MP
  · exact MQ_rows r10 r11 r12 r29 c11 c12 c65 (fun _ => rfl) MQ
  · exact ML_rows r35 r36 r37 r38 r39 r41 c35 c36 c37 c38 c67 c68 ML
theorem SIM_back (h8 : n ≤ 8) {a b : Nat} {m : Int32} (ha : a < n) (hw : vwt S n a b) (hm : m = S 18 b) (h7 : ∀ x, x < n → N S 21 x ≤ 7) (M : SIM S C n np nl sz 8) : SIM (mu (mu (mu (mu S 18 a (S 18 b)) 20 (8 * a + N S 21 a) (nI b)) 21 a (nI (N S 21 a + 1))) 19 a (-1)) (mu C 18 a m) n np nl (sz) 8 := by
  obtain ⟨M1, MG, ME, MC, MT, MK, MO, MP, MQ, ML⟩ := M
  have r2 : (mu (mu (mu (mu S 18 a (S 18 b)) 20 (8 * a + N S 21 a) (nI b)) 21 a (nI (N S 21 a + 1))) 19 a (-1)) 2 = S 2 := by funext i; simp [mu]
  have r3 : (mu (mu (mu (mu S 18 a (S 18 b)) 20 (8 * a + N S 21 a) (nI b)) 21 a (nI (N S 21 a + 1))) 19 a (-1)) 3 = S 3 := by funext i; simp [mu]
  have r4 : (mu (mu (mu (mu S 18 a (S 18 b)) 20 (8 * a + N S 21 a) (nI b)) 21 a (nI (N S 21 a + 1))) 19 a (-1)) 4 = S 4 := by funext i; simp [mu]
  have r6 : (mu (mu (mu (mu S 18 a (S 18 b)) 20 (8 * a + N S 21 a) (nI b)) 21 a (nI (N S 21 a + 1))) 19 a (-1)) 6 = S 6 := by funext i; simp [mu]
  have r7 : (mu (mu (mu (mu S 18 a (S 18 b)) 20 (8 * a + N S 21 a) (nI b)) 21 a (nI (N S 21 a + 1))) 19 a (-1)) 7 = S 7 := by funext i; simp [mu]
  have r8 : (mu (mu (mu (mu S 18 a (S 18 b)) 20 (8 * a + N S 21 a) (nI b)) 21 a (nI (N S 21 a + 1))) 19 a (-1)) 8 = S 8 := by funext i; simp [mu]
  have r9 : (mu (mu (mu (mu S 18 a (S 18 b)) 20 (8 * a + N S 21 a) (nI b)) 21 a (nI (N S 21 a + 1))) 19 a (-1)) 9 = S 9 := by funext i; simp [mu]
  have r10 : (mu (mu (mu (mu S 18 a (S 18 b)) 20 (8 * a + N S 21 a) (nI b)) 21 a (nI (N S 21 a + 1))) 19 a (-1)) 10 = S 10 := by funext i; simp [mu]
  have r11 : (mu (mu (mu (mu S 18 a (S 18 b)) 20 (8 * a + N S 21 a) (nI b)) 21 a (nI (N S 21 a + 1))) 19 a (-1)) 11 = S 11 := by funext i; simp [mu]
  have r12 : (mu (mu (mu (mu S 18 a (S 18 b)) 20 (8 * a + N S 21 a) (nI b)) 21 a (nI (N S 21 a + 1))) 19 a (-1)) 12 = S 12 := by funext i; simp [mu]
  have r13 : (mu (mu (mu (mu S 18 a (S 18 b)) 20 (8 * a + N S 21 a) (nI b)) 21 a (nI (N S 21 a + 1))) 19 a (-1)) 13 = S 13 := by funext i; simp [mu]
  have r14 : (mu (mu (mu (mu S 18 a (S 18 b)) 20 (8 * a + N S 21 a) (nI b)) 21 a (nI (N S 21 a + 1))) 19 a (-1)) 14 = S 14 := by funext i; simp [mu]
  have r15 : (mu (mu (mu (mu S 18 a (S 18 b)) 20 (8 * a + N S 21 a) (nI b)) 21 a (nI (N S 21 a + 1))) 19 a (-1)) 15 = S 15 := by funext i; simp [mu]
  have r16 : (mu (mu (mu (mu S 18 a (S 18 b)) 20 (8 * a + N S 21 a) (nI b)) 21 a (nI (N S 21 a + 1))) 19 a (-1)) 16 = S 16 := by funext i; simp [mu]
  have r17 : (mu (mu (mu (mu S 18 a (S 18 b)) 20 (8 * a + N S 21 a) (nI b)) 21 a (nI (N S 21 a + 1))) 19 a (-1)) 17 = S 17 := by funext i; simp [mu]
  have r22 : (mu (mu (mu (mu S 18 a (S 18 b)) 20 (8 * a + N S 21 a) (nI b)) 21 a (nI (N S 21 a + 1))) 19 a (-1)) 22 = S 22 := by funext i; simp [mu]
  have r23 : (mu (mu (mu (mu S 18 a (S 18 b)) 20 (8 * a + N S 21 a) (nI b)) 21 a (nI (N S 21 a + 1))) 19 a (-1)) 23 = S 23 := by funext i; simp [mu]
  have r25 : (mu (mu (mu (mu S 18 a (S 18 b)) 20 (8 * a + N S 21 a) (nI b)) 21 a (nI (N S 21 a + 1))) 19 a (-1)) 25 = S 25 := by funext i; simp [mu]
  have r26 : (mu (mu (mu (mu S 18 a (S 18 b)) 20 (8 * a + N S 21 a) (nI b)) 21 a (nI (N S 21 a + 1))) 19 a (-1)) 26 = S 26 := by funext i; simp [mu]
  have r27 : (mu (mu (mu (mu S 18 a (S 18 b)) 20 (8 * a + N S 21 a) (nI b)) 21 a (nI (N S 21 a + 1))) 19 a (-1)) 27 = S 27 := by funext i; simp [mu]
  have r28 : (mu (mu (mu (mu S 18 a (S 18 b)) 20 (8 * a + N S 21 a) (nI b)) 21 a (nI (N S 21 a + 1))) 19 a (-1)) 28 = S 28 := by funext i; simp [mu]
  have r29 : (mu (mu (mu (mu S 18 a (S 18 b)) 20 (8 * a + N S 21 a) (nI b)) 21 a (nI (N S 21 a + 1))) 19 a (-1)) 29 = S 29 := by funext i; simp [mu]
  have r31 : (mu (mu (mu (mu S 18 a (S 18 b)) 20 (8 * a + N S 21 a) (nI b)) 21 a (nI (N S 21 a + 1))) 19 a (-1)) 31 = S 31 := by funext i; simp [mu]
  have r35 : (mu (mu (mu (mu S 18 a (S 18 b)) 20 (8 * a + N S 21 a) (nI b)) 21 a (nI (N S 21 a + 1))) 19 a (-1)) 35 = S 35 := by funext i; simp [mu]
  have r36 : (mu (mu (mu (mu S 18 a (S 18 b)) 20 (8 * a + N S 21 a) (nI b)) 21 a (nI (N S 21 a + 1))) 19 a (-1)) 36 = S 36 := by funext i; simp [mu]
  have r37 : (mu (mu (mu (mu S 18 a (S 18 b)) 20 (8 * a + N S 21 a) (nI b)) 21 a (nI (N S 21 a + 1))) 19 a (-1)) 37 = S 37 := by funext i; simp [mu]
  have r38 : (mu (mu (mu (mu S 18 a (S 18 b)) 20 (8 * a + N S 21 a) (nI b)) 21 a (nI (N S 21 a + 1))) 19 a (-1)) 38 = S 38 := by funext i; simp [mu]
  have r39 : (mu (mu (mu (mu S 18 a (S 18 b)) 20 (8 * a + N S 21 a) (nI b)) 21 a (nI (N S 21 a + 1))) 19 a (-1)) 39 = S 39 := by funext i; simp [mu]
  have r41 : (mu (mu (mu (mu S 18 a (S 18 b)) 20 (8 * a + N S 21 a) (nI b)) 21 a (nI (N S 21 a + 1))) 19 a (-1)) 41 = S 41 := by funext i; simp [mu]
  have c1 : (mu C 18 a m) 1 = C 1 := by funext i; simp [mu]
  have c3 : (mu C 18 a m) 3 = C 3 := by funext i; simp [mu]
  have c4 : (mu C 18 a m) 4 = C 4 := by funext i; simp [mu]
  have c5 : (mu C 18 a m) 5 = C 5 := by funext i; simp [mu]
  have c9 : (mu C 18 a m) 9 = C 9 := by funext i; simp [mu]
  have c10 : (mu C 18 a m) 10 = C 10 := by funext i; simp [mu]
  have c11 : (mu C 18 a m) 11 = C 11 := by funext i; simp [mu]
  have c12 : (mu C 18 a m) 12 = C 12 := by funext i; simp [mu]
  have c15 : (mu C 18 a m) 15 = C 15 := by funext i; simp [mu]
  have c16 : (mu C 18 a m) 16 = C 16 := by funext i; simp [mu]
  have c17 : (mu C 18 a m) 17 = C 17 := by funext i; simp [mu]
  have c22 : (mu C 18 a m) 22 = C 22 := by funext i; simp [mu]
  have c23 : (mu C 18 a m) 23 = C 23 := by funext i; simp [mu]
  have c27 : (mu C 18 a m) 27 = C 27 := by funext i; simp [mu]
  have c28 : (mu C 18 a m) 28 = C 28 := by funext i; simp [mu]
  have c34 : (mu C 18 a m) 34 = C 34 := by funext i; simp [mu]
  have c35 : (mu C 18 a m) 35 = C 35 := by funext i; simp [mu]
  have c36 : (mu C 18 a m) 36 = C 36 := by funext i; simp [mu]
  have c37 : (mu C 18 a m) 37 = C 37 := by funext i; simp [mu]
  have c38 : (mu C 18 a m) 38 = C 38 := by funext i; simp [mu]
  have c50 : (mu C 18 a m) 50 = C 50 := by funext i; simp [mu]
  have c51 : (mu C 18 a m) 51 = C 51 := by funext i; simp [mu]
  have c52 : (mu C 18 a m) 52 = C 52 := by funext i; simp [mu]
  have c53 : (mu C 18 a m) 53 = C 53 := by funext i; simp [mu]
  have c54 : (mu C 18 a m) 54 = C 54 := by funext i; simp [mu]
  have c55 : (mu C 18 a m) 55 = C 55 := by funext i; simp [mu]
  have c56 : (mu C 18 a m) 56 = C 56 := by funext i; simp [mu]
  have c57 : (mu C 18 a m) 57 = C 57 := by funext i; simp [mu]
  have c58 : (mu C 18 a m) 58 = C 58 := by funext i; simp [mu]
  have c59 : (mu C 18 a m) 59 = C 59 := by funext i; simp [mu]
  have c60 : (mu C 18 a m) 60 = C 60 := by funext i; simp [mu]
  have c62 : (mu C 18 a m) 62 = C 62 := by funext i; simp [mu]
  have c63 : (mu C 18 a m) 63 = C 63 := by funext i; simp [mu]
  have c64 : (mu C 18 a m) 64 = C 64 := by funext i; simp [mu]
  have c65 : (mu C 18 a m) 65 = C 65 := by funext i; simp [mu]
  have c66 : (mu C 18 a m) 66 = C 66 := by funext i; simp [mu]
  have c67 : (mu C 18 a m) 67 = C 67 := by funext i; simp [mu]
  have c68 : (mu C 18 a m) 68 = C 68 := by funext i; simp [mu]
  refine ⟨?_, ?_, ?_, ?_, ?_, ?_, ?_, ?_, ?_, ?_⟩
  · exact M1_rows r2 r27 c1 c5 c34 c60 c27 rfl rfl rfl M1
  · intro x hx
    have g := MG x hx
    have e18 : (mu (mu (mu (mu S 18 a (S 18 b)) 20 (8 * a + N S 21 a) (nI b)) 21 a (nI (N S 21 a + 1))) 19 a (-1)) 18 x = if x = a then S 18 b else S 18 x := by simp [mu]
    have d18 : (mu C 18 a m) 18 x = if x = a then m else C 18 x := by simp [mu]
    rw [r3, r9, r10, r15, r16, r17, r22, r23, r28, c3, c9, c10, c15, c16, c17, c22, c23, c28, e18, d18, hm, g.2.2.2.2.2.2.1]
    exact ⟨g.1, g.2.1, g.2.2.1, g.2.2.2.1, g.2.2.2.2.1, g.2.2.2.2.2.1, rfl, g.2.2.2.2.2.2.2⟩
  · intro x hx
    have g := ME x hx
    have e19 : (mu (mu (mu (mu S 18 a (S 18 b)) 20 (8 * a + N S 21 a) (nI b)) 21 a (nI (N S 21 a + 1))) 19 a (-1)) 19 x = if x = a then -1 else S 19 x := by simp [mu]
    rw [c50, c51, e19]
    refine ⟨fun q => by unfold stg; rw [r13, r14]; exact g.1 q, fun q => ?_⟩
    by_cases z : x = a
    · rw [if_pos z] at q; exact absurd rfl q
    · rw [if_neg z] at q ⊢; exact g.2 q
  · intro x hx
    have g := MC x hx
    have e19 : (mu (mu (mu (mu S 18 a (S 18 b)) 20 (8 * a + N S 21 a) (nI b)) 21 a (nI (N S 21 a + 1))) 19 a (-1)) 19 x = if x = a then -1 else S 19 x := by simp [mu]
    have e20 : ∀ y, (mu (mu (mu (mu S 18 a (S 18 b)) 20 (8 * a + N S 21 a) (nI b)) 21 a (nI (N S 21 a + 1))) 19 a (-1)) 20 y = if y = 8 * a + N S 21 a then nI b else S 20 y := fun y => by simp [mu]
    have e21 : N (mu (mu (mu (mu S 18 a (S 18 b)) 20 (8 * a + N S 21 a) (nI b)) 21 a (nI (N S 21 a + 1))) 19 a (-1)) 21 x = if x = a then N S 21 a + 1 else N S 21 x := by
      have h7a := h7 a ha
      show ((mu (mu (mu (mu S 18 a (S 18 b)) 20 (8 * a + N S 21 a) (nI b)) 21 a (nI (N S 21 a + 1))) 19 a (-1)) 21 x).toNatClampNeg = _
      have : (mu (mu (mu (mu S 18 a (S 18 b)) 20 (8 * a + N S 21 a) (nI b)) 21 a (nI (N S 21 a + 1))) 19 a (-1)) 21 x = if x = a then nI (N S 21 a + 1) else S 21 x := by simp [mu]
      rw [this]
      by_cases z : x = a
      · rw [if_pos z, if_pos z, nI_clamp (by omega)]
      · rw [if_neg z, if_neg z]
    have w19 : S 19 a ≠ -1 := by rw [hw.2.2]; exact nI_m1' (by have := hw.2.1; omega)
    have h7x := h7 x hx
    have h7a := h7 a ha
    have en : chn (mu (mu (mu (mu S 18 a (S 18 b)) 20 (8 * a + N S 21 a) (nI b)) 21 a (nI (N S 21 a + 1))) 19 a (-1)) x = chn S x := by
      show N (mu (mu (mu (mu S 18 a (S 18 b)) 20 (8 * a + N S 21 a) (nI b)) 21 a (nI (N S 21 a + 1))) 19 a (-1)) 21 x + (if (mu (mu (mu (mu S 18 a (S 18 b)) 20 (8 * a + N S 21 a) (nI b)) 21 a (nI (N S 21 a + 1))) 19 a (-1)) 19 x = -1 then 0 else 1) = N S 21 x + (if S 19 x = -1 then 0 else 1)
      rw [e21, e19]
      by_cases z : x = a
      · rw [if_pos z, if_pos z, if_pos rfl, z, if_neg w19]
      · rw [if_neg z, if_neg z]
    have ed : ∀ k, k < chn S x → chd (mu (mu (mu (mu S 18 a (S 18 b)) 20 (8 * a + N S 21 a) (nI b)) 21 a (nI (N S 21 a + 1))) 19 a (-1)) x k = chd S x k := fun k hk => by
      show (if k < N (mu (mu (mu (mu S 18 a (S 18 b)) 20 (8 * a + N S 21 a) (nI b)) 21 a (nI (N S 21 a + 1))) 19 a (-1)) 21 x then (mu (mu (mu (mu S 18 a (S 18 b)) 20 (8 * a + N S 21 a) (nI b)) 21 a (nI (N S 21 a + 1))) 19 a (-1)) 20 (8 * x + k) else (mu (mu (mu (mu S 18 a (S 18 b)) 20 (8 * a + N S 21 a) (nI b)) 21 a (nI (N S 21 a + 1))) 19 a (-1)) 19 x) = (if k < N S 21 x then S 20 (8 * x + k) else S 19 x)
      have hk' : k < N S 21 x + (if S 19 x = -1 then 0 else 1) := hk
      rw [e21, e19, e20]
      by_cases z : x = a
      · rw [if_pos z, if_pos z]
        rw [z, if_neg w19] at hk'
        rw [if_pos (by omega)]
        by_cases y : k = N S 21 a
        · rw [if_pos (by omega), if_neg (by rw [z]; omega), z, hw.2.2]
        · rw [if_neg (by omega), if_pos (by rw [z]; omega)]
      · rw [if_neg z, if_neg z]
        by_cases y : k < N S 21 x
        · rw [if_pos y, if_pos y, if_neg (by omega)]
        · rw [if_neg y, if_neg y]
    rw [en, c52, c53, c54, c55, c56]
    refine ⟨g.1, g.2.1, fun k hk => ?_⟩
    have gk := g.2.2 k hk
    rw [ed k hk]
    simp only [N, r23, r25, r26] at gk ⊢
    exact gk
  · exact MT_rows r23 r25 r26 c57 c58 MT
  · exact MK_rows r28 r31 c59 c66 MK
  · exact MO_rows r4 c4 MO
  · exact MP_rows r6 r7 r8 c62 c63 c64 MP
  · exact MQ_rows r10 r11 r12 r29 c11 c12 c65 (fun _ => rfl) MQ
  · exact ML_rows r35 r36 r37 r38 r39 r41 c35 c36 c37 c38 c67 c68 ML
theorem BI_back {a b : Nat} (ha : a < n) (hbn : b < n) (hcc : N S 21 a < 7) (B : BI S n np nl T) : BI (mu (mu (mu (mu S 18 a (S 18 b)) 20 (8 * a + N S 21 a) (nI b)) 21 a (nI (N S 21 a + 1))) 19 a (-1)) n np nl T := by
  obtain ⟨⟨b1, b2, b3, b4, b5, b6, b7⟩, B3, B2, BP, B4, B8, B26, B9, BN, BA, BC, BT⟩ := B
  have r1 : (mu (mu (mu (mu S 18 a (S 18 b)) 20 (8 * a + N S 21 a) (nI b)) 21 a (nI (N S 21 a + 1))) 19 a (-1)) 1 = S 1 := by funext i; simp [mu]
  have r2 : (mu (mu (mu (mu S 18 a (S 18 b)) 20 (8 * a + N S 21 a) (nI b)) 21 a (nI (N S 21 a + 1))) 19 a (-1)) 2 = S 2 := by funext i; simp [mu]
  have r3 : (mu (mu (mu (mu S 18 a (S 18 b)) 20 (8 * a + N S 21 a) (nI b)) 21 a (nI (N S 21 a + 1))) 19 a (-1)) 3 = S 3 := by funext i; simp [mu]
  have r4 : (mu (mu (mu (mu S 18 a (S 18 b)) 20 (8 * a + N S 21 a) (nI b)) 21 a (nI (N S 21 a + 1))) 19 a (-1)) 4 = S 4 := by funext i; simp [mu]
  have r5 : (mu (mu (mu (mu S 18 a (S 18 b)) 20 (8 * a + N S 21 a) (nI b)) 21 a (nI (N S 21 a + 1))) 19 a (-1)) 5 = S 5 := by funext i; simp [mu]
  have r6 : (mu (mu (mu (mu S 18 a (S 18 b)) 20 (8 * a + N S 21 a) (nI b)) 21 a (nI (N S 21 a + 1))) 19 a (-1)) 6 = S 6 := by funext i; simp [mu]
  have r7 : (mu (mu (mu (mu S 18 a (S 18 b)) 20 (8 * a + N S 21 a) (nI b)) 21 a (nI (N S 21 a + 1))) 19 a (-1)) 7 = S 7 := by funext i; simp [mu]
  have r8 : (mu (mu (mu (mu S 18 a (S 18 b)) 20 (8 * a + N S 21 a) (nI b)) 21 a (nI (N S 21 a + 1))) 19 a (-1)) 8 = S 8 := by funext i; simp [mu]
  have r9 : (mu (mu (mu (mu S 18 a (S 18 b)) 20 (8 * a + N S 21 a) (nI b)) 21 a (nI (N S 21 a + 1))) 19 a (-1)) 9 = S 9 := by funext i; simp [mu]
  have r12 : (mu (mu (mu (mu S 18 a (S 18 b)) 20 (8 * a + N S 21 a) (nI b)) 21 a (nI (N S 21 a + 1))) 19 a (-1)) 12 = S 12 := by funext i; simp [mu]
  have r13 : (mu (mu (mu (mu S 18 a (S 18 b)) 20 (8 * a + N S 21 a) (nI b)) 21 a (nI (N S 21 a + 1))) 19 a (-1)) 13 = S 13 := by funext i; simp [mu]
  have r14 : (mu (mu (mu (mu S 18 a (S 18 b)) 20 (8 * a + N S 21 a) (nI b)) 21 a (nI (N S 21 a + 1))) 19 a (-1)) 14 = S 14 := by funext i; simp [mu]
  have r15 : (mu (mu (mu (mu S 18 a (S 18 b)) 20 (8 * a + N S 21 a) (nI b)) 21 a (nI (N S 21 a + 1))) 19 a (-1)) 15 = S 15 := by funext i; simp [mu]
  have r16 : (mu (mu (mu (mu S 18 a (S 18 b)) 20 (8 * a + N S 21 a) (nI b)) 21 a (nI (N S 21 a + 1))) 19 a (-1)) 16 = S 16 := by funext i; simp [mu]
  have r23 : (mu (mu (mu (mu S 18 a (S 18 b)) 20 (8 * a + N S 21 a) (nI b)) 21 a (nI (N S 21 a + 1))) 19 a (-1)) 23 = S 23 := by funext i; simp [mu]
  have r26 : (mu (mu (mu (mu S 18 a (S 18 b)) 20 (8 * a + N S 21 a) (nI b)) 21 a (nI (N S 21 a + 1))) 19 a (-1)) 26 = S 26 := by funext i; simp [mu]
  have r28 : (mu (mu (mu (mu S 18 a (S 18 b)) 20 (8 * a + N S 21 a) (nI b)) 21 a (nI (N S 21 a + 1))) 19 a (-1)) 28 = S 28 := by funext i; simp [mu]
  have r29 : (mu (mu (mu (mu S 18 a (S 18 b)) 20 (8 * a + N S 21 a) (nI b)) 21 a (nI (N S 21 a + 1))) 19 a (-1)) 29 = S 29 := by funext i; simp [mu]
  have r34 : (mu (mu (mu (mu S 18 a (S 18 b)) 20 (8 * a + N S 21 a) (nI b)) 21 a (nI (N S 21 a + 1))) 19 a (-1)) 34 = S 34 := by funext i; simp [mu]
  refine ⟨⟨by rw [r1]; exact b1, b2, by rw [r5]; exact b3, b4, by rw [r34]; exact b5, b6, by rw [r2]; exact b7⟩, ?_, ?_, ?_, ?_, ?_, ?_, ?_, ?_, ?_, ?_, BT⟩
  · simp only [nn, N]; rw [r3]; exact B3
  · simp only [N]; rw [r3]; exact B2
  · simp only [vnb]; rw [r6, r7, r9]; exact BP
  · simp only [nn, N]; rw [r4]; exact B4
  · simp only [nn, N]; rw [r8]; exact B8
  · simp only [nn, N]; rw [r26]; exact B26
  · rw [r9]; exact B9
  · simp only [vnb]; rw [r9]; exact BN
  · intro x hx
    have g := BA x hx
    have e19 : (mu (mu (mu (mu S 18 a (S 18 b)) 20 (8 * a + N S 21 a) (nI b)) 21 a (nI (N S 21 a + 1))) 19 a (-1)) 19 x = if x = a then -1 else S 19 x := by simp [mu]
    have e21 : (mu (mu (mu (mu S 18 a (S 18 b)) 20 (8 * a + N S 21 a) (nI b)) 21 a (nI (N S 21 a + 1))) 19 a (-1)) 21 x = if x = a then nI (N S 21 a + 1) else S 21 x := by simp [mu]
    simp only [nn, N]
    rw [r12, r13, r14, r15, r16, r23, r28, r29, e19, e21]
    refine ⟨g.1, g.2.1, g.2.2.1, g.2.2.2.1, ?_, ?_, g.2.2.2.2.2.2⟩
    · split
      · exact Or.inl rfl
      · exact g.2.2.2.2.1
    · split
      · have : (nI ((S 21 a).toNatClampNeg + 1)).toNatClampNeg = (S 21 a).toNatClampNeg + 1 := nI_clamp (by have : (S 21 a).toNatClampNeg < 7 := hcc; omega)
        rw [this]; exact ⟨rfl, hcc⟩
      · exact g.2.2.2.2.2.1
  · intro x k hx hk
    have e20 : ∀ y, (mu (mu (mu (mu S 18 a (S 18 b)) 20 (8 * a + N S 21 a) (nI b)) 21 a (nI (N S 21 a + 1))) 19 a (-1)) 20 y = if y = 8 * a + N S 21 a then nI b else S 20 y := fun y => by simp [mu]
    have e21 : (mu (mu (mu (mu S 18 a (S 18 b)) 20 (8 * a + N S 21 a) (nI b)) 21 a (nI (N S 21 a + 1))) 19 a (-1)) 21 x = if x = a then nI (N S 21 a + 1) else S 21 x := by simp [mu]
    rw [e20]
    by_cases z : 8 * x + k = 8 * a + N S 21 a
    · rw [if_pos z]; exact ⟨b, hbn, rfl⟩
    · rw [if_neg z]
      refine BC x k hx ?_
      have hk' : k < ((mu (mu (mu (mu S 18 a (S 18 b)) 20 (8 * a + N S 21 a) (nI b)) 21 a (nI (N S 21 a + 1))) 19 a (-1)) 21 x).toNatClampNeg := hk
      rw [e21] at hk'
      by_cases y : x = a
      · rw [if_pos y, nI_clamp (by omega)] at hk'
        rw [y] at z ⊢
        omega
      · rw [if_neg y] at hk'; exact hk'
end
