/-! CLASS AND REFERENCE: start. Written by wip/whole/gen/p84.py -/
section
variable {Γ : jm_G} {d x : Nat} {L sz : Nat → Nat → Nat} {S C : mS} {h : jm_H} {ρ : Nat → Nat} {n np nl T : Nat} {A : Rl} {dd : Nat → Nat}
theorem wk_keep {a np cc z w j : Nat} {r : Int32} (hj : j < 34) (h15 : j ≠ 15) (h23 : j < 23) : wkS S a r np cc z w j = S j := by
  have mk : mkS S a r np cc z w j = S j := mkS_row (by omega) (by omega) (by omega) (by omega) (by omega) (by omega) (by omega)
  unfold wkS
  split
  · split
    · exact mu_row (by omega)
    · split
      · rw [pt_lo hj, mk]
      · split
        · rw [mu_row (by omega), mk]
        · unfold chS
          funext i
          rw [pcF_lo hj, mu_row (by omega), mu_row (by omega), mu_row (by omega), mu_row (by omega), mu_row (by omega)]
          have : ∀ y, rsR (mkS S a r np cc z w) 32 8 y j i = mkS S a r np cc z w j i := fun y => by
            unfold rsR; rw [if_neg (fun q => by omega)]
          rw [this, mk]
  · rfl
theorem hd_keep {a n np j : Nat} (hj : j < 23) (h14 : j ≠ 14) (h15 : j ≠ 15) (h19 : j ≠ 19) (h22 : j ≠ 22) : hdC S a n np j = S j := by
  have hU : ∀ cc, hdU S a n cc j = S j := fun cc => by rw [hdU, mu_row h22, mu_row h14, mu_row h19]
  show hdS S a n np _ _ _ j = S j
  unfold hdS
  split
  · rw [wk_keep (by omega) h15 hj]
    unfold hdV
    split
    · exact hU _
    · rw [pst_lo (by omega)]; exact hU _
  · rw [pst_lo (by omega), mu_row h19]
theorem spF_12 {X U : mS} {M : Nat → Int32} : ∀ {a}, spF (st0 X) n M a = U → ∀ i, U 12 i = 1 ∨ U 12 i = X 12 i
  | 0, e, i => by rw [← e]; exact Or.inr (by show st0 X 12 i = _; simp [mu])
  | a + 1, e, i => by
    rw [← e, spF]
    split
    · exact spF_12 rfl i
    · unfold fpC
      by_cases z : i = a
      · simp [z]
      · simp [z]; exact spF_12 rfl i
/-- class and reference when the parts are found -/
theorem start_W {C2 : mS} {sz2 : Nat → Nat → Nat} (h : INV S C n np nl T sz) (hs : S 2 0 = 0) (hT : 1 ≤ T) (F : FP (spF (st0 S) n (MM (st0 S) n) n) (mu C 60 0 0) C2 sz sz2 n) :
    WI (spF (st0 S) n (MM (st0 S) n) n) C2 n np nl T sz2 (fun _ _ => False) (fun _ => 0) noH 8 8 ∧ (∀ y, ¬ vhd (spF (st0 S) n (MM (st0 S) n) n) n y) ∧ ∀ y, (spF (st0 S) n (MM (st0 S) n) n) 17 y = 0 := by
  have pre := inv_pre h hs
  obtain ⟨B, M, -⟩ := h
  obtain ⟨⟨b1, b2, b3, b4, b5, b6, b7⟩, B3, B2, BP, B4, B8, B26, B9, BN, BA, BC, BT⟩ := id B
  have r0 : ∀ j, j ≠ 0 → j ≠ 2 → st0 S j = S j := fun j q1 q2 => by rw [st0, mu_row q2, mu_row q1]
  have h9 : ∀ a, a < 8 → ∃ m, m < 256 ∧ (st0 S) 9 a = nI m := by rw [r0 9 (by decide) (by decide)]; exact B9
  have hN : ∀ x y, vnb (st0 S) n x y → vnb (st0 S) n y x ∧ x ≠ y ∧ y < n := by unfold vnb; rw [r0 9 (by decide) (by decide)]; exact BN
  have h10 : ∀ i, i < 8 → (st0 S) 10 i = -1 := fun i hi => by rw [r0 10 (by decide) (by decide)]; exact (pre_rows pre hi).1
  have J := JJ_all b2 h9 hN h10 n (Nat.le_refl _)
  obtain ⟨hI, R1⟩ := IS_ini (np := np) b2 h9 hN J h10 (fun j q1 q2 => by rw [r0 j (by omega) (by omega)]; exact pre.2.1 j (by omega) (by omega))
  generalize hU : spF (st0 S) n (MM (st0 S) n) n = U at *
  obtain ⟨j0, j1, j2, j3, j4, j5⟩ := id J
  have row : ∀ j, j ≠ 0 → j ≠ 2 → j ≠ 10 → j ≠ 11 → j ≠ 12 → U j = S j := fun j q1 q2 q3 q4 q5 => by rw [j0 j q3 q4 q5, r0 j q1 q2]
  have u2 : U 2 0 = 1 := by rw [j0 2 (by decide) (by decide) (by decide)]; simp [mu]
  have p0 := fun a (ha : a < 8) => pre_rows pre ha
  have ix : ∀ a, a < n → ∃ q, q < n ∧ U 10 a = nI q := fun a ha => by
    rcases j1 a ha with z | ⟨q, z1, z2, z3, z4⟩
    · exact absurd z (j3 a ha ha)
    · exact ⟨q, z2, z3⟩
  obtain ⟨f1, f2, f3, f4, f5⟩ := F
  have rc : ∀ j, j ≠ 10 → j ≠ 11 → j ≠ 12 → j ≠ 65 → j ≠ 60 → C2 j = C j := fun j q1 q2 q3 q4 q5 => by rw [f1 j q1 q2 q3 q4, mu_row q5]
  obtain ⟨M1, MG, ME, MC, MT, MK, MO, MP, MQ, ML⟩ := M
  have R := fun j (q : j ≠ 0 ∧ j ≠ 2 ∧ j ≠ 10 ∧ j ≠ 11 ∧ j ≠ 12) => row j q.1 q.2.1 q.2.2.1 q.2.2.2.1 q.2.2.2.2
  have K := fun j (q : j ≠ 10 ∧ j ≠ 11 ∧ j ≠ 12 ∧ j ≠ 65 ∧ j ≠ 60) => rc j q.1 q.2.1 q.2.2.1 q.2.2.2.1 q.2.2.2.2
  have n29 : ∀ i, U 29 i = 0 := fun i => by rw [R 29 (by decide), pre.2.1 29 (by decide) (by decide)]; simp [mS0, rsR, mZ]
  have hno : ∀ y, ¬ vhd U n y := fun y q => q.2 (by rw [R 13 (by decide)]; exact (p0 y (by have := q.1; omega)).2.1)
  refine ⟨⟨u2, ?_, ?_, (IX8 b2).mpr hI, fun k hk => ?_, fun a k k' ha _ hk' => ?_, fun q hq e => (f4 q hq).mp e⟩, hno, fun y => by rw [R 17 (by decide), pre.2.1 17 (by decide) (by decide)]; simp [mS0, rsR, mZ]⟩
  · refine ⟨⟨by rw [R 1 (by decide)]; exact b1, b2, by rw [R 5 (by decide)]; exact b3, b4, by rw [R 34 (by decide)]; exact b5, b6, Or.inr u2⟩, ?_, ?_, ?_, ?_, ?_, ?_, ?_, ?_, ?_, ?_, BT⟩
    · simp only [nn, N]; rw [R 3 (by decide)]; exact B3
    · simp only [N]; rw [R 3 (by decide)]; exact B2
    · simp only [vnb]; rw [R 6 (by decide), R 7 (by decide), R 9 (by decide)]; exact BP
    · simp only [nn, N]; rw [R 4 (by decide)]; exact B4
    · simp only [nn, N]; rw [R 8 (by decide)]; exact B8
    · simp only [nn, N]; rw [R 26 (by decide)]; exact B26
    · rw [R 9 (by decide)]; exact B9
    · simp only [vnb]; rw [R 9 (by decide)]; exact BN
    · intro a ha
      have g := BA a ha
      simp only [nn, N]
      rw [R 13 (by decide), R 14 (by decide), R 15 (by decide), R 16 (by decide), R 19 (by decide), R 21 (by decide), R 23 (by decide), R 28 (by decide), R 29 (by decide)]
      refine ⟨g.1, g.2.1, g.2.2.1, g.2.2.2.1, g.2.2.2.2.1, g.2.2.2.2.2.1, ?_, g.2.2.2.2.2.2.2⟩
      have e12 : U 12 a = 1 ∨ U 12 a = S 12 a := spF_12 hU a
      rcases e12 with z | z
      · rw [z]; exact ⟨rfl, hT⟩
      · rw [z]; exact g.2.2.2.2.2.2.1
    · simp only [N]; rw [R 20 (by decide), R 21 (by decide)]; exact BC
  · refine ⟨?_, ?_, ?_, ?_, ?_, ?_, ?_, ?_, ?_, ?_⟩
    · obtain ⟨m1, m2, m3, m4, m5, m6, m7, m8⟩ := M1
      refine ⟨by rw [K 1 (by decide)]; exact m1, by rw [K 5 (by decide)]; exact m2, by rw [K 34 (by decide)]; exact m3, ?_, by rw [K 27 (by decide), R 27 (by decide)]; exact m5, by rw [f3 1 0 (by decide)]; exact m6, by rw [f3 6 0 (by decide)]; exact m7, by rw [f3 8 0 (by decide)]; exact m8⟩
      rw [f1 60 (by decide) (by decide) (by decide) (by decide), u2]; simp [mu]
    · intro a ha
      have g := MG a ha
      rw [K 3 (by decide), K 9 (by decide), K 15 (by decide), K 16 (by decide), K 17 (by decide), K 18 (by decide), K 22 (by decide), K 23 (by decide), K 28 (by decide), R 3 (by decide), R 9 (by decide), R 15 (by decide), R 16 (by decide), R 17 (by decide), R 18 (by decide), R 22 (by decide), R 23 (by decide), R 28 (by decide)]
      exact ⟨g.1, g.2.1, f2 a ha, g.2.2.2⟩
    · exact ME_rows (R 13 (by decide)) (R 14 (by decide)) (R 19 (by decide)) (K 50 (by decide)) (K 51 (by decide)) ME
    · exact mC_rows (R 19 (by decide)) (R 20 (by decide)) (R 21 (by decide)) (R 23 (by decide)) (R 25 (by decide)) (R 26 (by decide)) (K 52 (by decide)) (K 53 (by decide)) (K 54 (by decide)) (K 55 (by decide)) (K 56 (by decide)) (fun a => f3 4 a (by decide)) MC
    · exact MT_rows (R 23 (by decide)) (R 25 (by decide)) (R 26 (by decide)) (K 57 (by decide)) (K 58 (by decide)) MT
    · exact MK_rows (R 28 (by decide)) (R 31 (by decide)) (K 59 (by decide)) (K 66 (by decide)) MK
    · exact MO_rows (R 4 (by decide)) (K 4 (by decide)) MO
    · exact MP_rows (R 6 (by decide)) (R 7 (by decide)) (R 8 (by decide)) (K 62 (by decide)) (K 63 (by decide)) (K 64 (by decide)) MP
    · refine ⟨fun a q ha hq e => (f4 q hq).mpr ⟨a, ha, e⟩, fun q hq e => ?_⟩
      have g := f5 q hq e
      exact ⟨g.1, g.2.1, by rw [g.2.2, n29]⟩
    · intro k hk; rw [pre.1] at hk; exact absurd hk (Nat.not_lt_zero _)
  · rw [pre.1] at hk; exact absurd hk (Nat.not_lt_zero _)
  · exfalso
    have : N U 21 a = 0 := by show (U 21 a).toNatClampNeg = 0; rw [R 21 (by decide), (p0 a (by omega)).2.2.2.2.2.2.2.2.1]; rfl
    omega
end
