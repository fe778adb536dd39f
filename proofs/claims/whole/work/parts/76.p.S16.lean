/-! SIMULATION S16. Laid by wip/whole/gen/p71.py -/
section
variable {S C : mS} {n np nl T : Nat} {sz : Nat → Nat → Nat} {A : Rl} {dd : Nat → Nat} {hh : Nat → Prop} {hx ex : Nat}
theorem dl0_r {k : Nat} (hk : k < nl) (h20 : nl ≤ 20) : (∀ j, 0 < j → j < 34 → dl0 S k nl j = S j) ∧ dl0 S k nl 34 0 = nI (nl - 1) ∧ (∀ j y, 35 ≤ j → j ≤ 40 → y < nl - 1 → dl0 S k nl j y = S j (if y < k then y else y + 1)) ∧ (∀ j, 35 ≤ j → j ≤ 40 → dl0 S k nl j 20 = S j k) ∧ (∀ y i, y < nl - 1 → i < 256 → dl0 S k nl 41 (256 * y + i) = S 41 (256 * (if y < k then y else y + 1) + i)) ∧ ∀ i, i < 256 → dl0 S k nl 41 (5120 + i) = S 41 (256 * k + i) := by
  have hk20 : k ≠ 20 := by omega
  have c1 : ∀ j y, 35 ≤ j → j ≤ 40 → (cpL (mu S 0 0 0) k 20) j y = if y = 20 then S j k else S j y := fun j y q1 q2 => by
    have : j = 35 ∨ j = 36 ∨ j = 37 ∨ j = 38 ∨ j = 39 ∨ j = 40 := by omega
    rcases this with rfl | rfl | rfl | rfl | rfl | rfl <;> simp [cpL, cp6, cpB, mu]
  have c2 : ∀ z, (cpL (mu S 0 0 0) k 20) 41 z = if 5120 ≤ z ∧ z < 5376 then S 41 (256 * k + (z - 5120)) else S 41 z := fun z => by simp [cpL, cp6, cpB, mu]
  have c3 : ∀ j, 0 < j → j < 35 → (cpL (mu S 0 0 0) k 20) j = S j := fun j q1 q2 => by
    funext i
    have : j ≠ 35 ∧ j ≠ 36 ∧ j ≠ 37 ∧ j ≠ 38 ∧ j ≠ 39 ∧ j ≠ 40 ∧ j ≠ 41 ∧ j ≠ 0 := by omega
    simp [cpL, cp6, cpB, mu, this]
  obtain ⟨h1, h2, h3⟩ := shL_r (S := cpL (mu S 0 0 0) k 20) (k := k) (nl - 1 - k)
  have e : ∀ j, j ≠ 34 → dl0 S k nl j = shL (cpL (mu S 0 0 0) k 20) k (nl - 1 - k) j := fun j q => mu_row q
  refine ⟨fun j q1 q2 => by rw [e j (by omega), h3 j (by omega), c3 j q1 (by omega)], mu_same, fun j y q1 q2 q3 => ?_, fun j q1 q2 => ?_, fun y i q1 q2 => ?_, fun i hi => ?_⟩
  · rw [e j (by omega), h1 j y q1 q2]
    by_cases z : y < k
    · rw [if_neg (by omega), c1 j y q1 q2, if_neg (by omega), if_pos z]
    · rw [if_pos (by omega), c1 j _ q1 q2, if_neg (by omega), if_neg z]
  · rw [e j (by omega), h1 j 20 q1 q2, if_neg (by omega), c1 j 20 q1 q2, if_pos rfl]
  · rw [e 41 (by decide), h2]
    by_cases z : y < k
    · rw [if_neg (by omega), c2, if_neg (by omega), if_pos z]
    · rw [if_pos (by omega), c2, if_neg (by omega), if_neg z]
      exact congrArg (S 41) (by omega)
  · rw [e 41 (by decide), h2, if_neg (by omega), c2, if_pos (by omega)]
    exact congrArg (S 41) (by omega)
theorem take_W {k : Nat} (W : WI S C n np nl T sz A dd hh hx ex) (hk : k < nl) : WI (dl0 S k nl) (tkC (mu C 34 0 (nI (nl - 1))) k (nl - 1 - k)) n np (nl - 1) T (lu sz 8 0 (nl - 1)) A dd hh hx ex ∧ LV (dl0 S k nl) n (S 35 k) (S 36 k) (S 37 k) (S 38 k) (S 39 k) (S 40 k) (fun i => S 41 (256 * k + i)) := by
  obtain ⟨w1, B, M, IXh, LVs, CDh, Z5h⟩ := W
  have b6 := B.1.2.2.2.2.2.1
  obtain ⟨lo, e34, sl, s20, c41, c20⟩ := dl0_r (S := S) hk b6
  obtain ⟨t1, t2⟩ := tkC_r (C := mu C 34 0 (nI (nl - 1))) (k := k) (nl - 1 - k)
  have er : ∀ {w a b m my mk : Int32} {e : Nat → Int32}, LV (dl0 S k nl) n w a b m my mk e = LV S n w a b m my mk e := LV_rows (fun j q _ _ q0 => lo j (by omega) (by omega))
  refine ⟨⟨by rw [lo 2 (by decide) (by decide)]; exact w1, ?_, ?_, ?_, fun y hy => ?_, CD_r CDh (lo 20 (by decide) (by decide)) (lo 21 (by decide) (by decide)), Z5_r Z5h (lo 10 (by decide) (by decide)) (fun _ => rfl)⟩, by rw [er]; exact LVs k hk⟩
  · obtain ⟨⟨b1, b2, b3, b4, b5, b6, b7⟩, B3, B2, BP, B4, B8, B26, B9, BN, BA, BC, BT⟩ := B
    have r1 := lo 1 (by decide) (by decide)
    have r2 := lo 2 (by decide) (by decide)
    have r3 := lo 3 (by decide) (by decide)
    have r4 := lo 4 (by decide) (by decide)
    have r5 := lo 5 (by decide) (by decide)
    have r6 := lo 6 (by decide) (by decide)
    have r7 := lo 7 (by decide) (by decide)
    have r8 := lo 8 (by decide) (by decide)
    have r9 := lo 9 (by decide) (by decide)
    have r12 := lo 12 (by decide) (by decide)
    have r13 := lo 13 (by decide) (by decide)
    have r14 := lo 14 (by decide) (by decide)
    have r15 := lo 15 (by decide) (by decide)
    have r16 := lo 16 (by decide) (by decide)
    have r19 := lo 19 (by decide) (by decide)
    have r20 := lo 20 (by decide) (by decide)
    have r21 := lo 21 (by decide) (by decide)
    have r23 := lo 23 (by decide) (by decide)
    have r26 := lo 26 (by decide) (by decide)
    have r28 := lo 28 (by decide) (by decide)
    have r29 := lo 29 (by decide) (by decide)
    refine ⟨⟨by rw [r1]; exact b1, b2, by rw [r5]; exact b3, b4, e34, by omega, by rw [r2]; exact b7⟩, ?_, ?_, ?_, ?_, ?_, ?_, ?_, ?_, ?_, ?_, BT⟩
    · simp only [nn, N]; rw [r3]; exact B3
    · simp only [N]; rw [r3]; exact B2
    · simp only [vnb]; rw [r6, r7, r9]; exact BP
    · simp only [nn, N]; rw [r4]; exact B4
    · simp only [nn, N]; rw [r8]; exact B8
    · simp only [nn, N]; rw [r26]; exact B26
    · rw [r9]; exact B9
    · simp only [vnb]; rw [r9]; exact BN
    · simp only [nn, N]; rw [r12, r13, r14, r15, r16, r19, r21, r23, r28, r29]; exact BA
    · simp only [N]; rw [r20, r21]; exact BC
  · obtain ⟨M1, MG, ME, MC, MT, MK, MO, MP, MQ, ML⟩ := M
    have r2 := lo 2 (by decide) (by decide)
    have r3 := lo 3 (by decide) (by decide)
    have r4 := lo 4 (by decide) (by decide)
    have r6 := lo 6 (by decide) (by decide)
    have r7 := lo 7 (by decide) (by decide)
    have r8 := lo 8 (by decide) (by decide)
    have r9 := lo 9 (by decide) (by decide)
    have r10 := lo 10 (by decide) (by decide)
    have r11 := lo 11 (by decide) (by decide)
    have r12 := lo 12 (by decide) (by decide)
    have r13 := lo 13 (by decide) (by decide)
    have r14 := lo 14 (by decide) (by decide)
    have r15 := lo 15 (by decide) (by decide)
    have r16 := lo 16 (by decide) (by decide)
    have r17 := lo 17 (by decide) (by decide)
    have r18 := lo 18 (by decide) (by decide)
    have r19 := lo 19 (by decide) (by decide)
    have r20 := lo 20 (by decide) (by decide)
    have r21 := lo 21 (by decide) (by decide)
    have r22 := lo 22 (by decide) (by decide)
    have r23 := lo 23 (by decide) (by decide)
    have r25 := lo 25 (by decide) (by decide)
    have r26 := lo 26 (by decide) (by decide)
    have r27 := lo 27 (by decide) (by decide)
    have r28 := lo 28 (by decide) (by decide)
    have r29 := lo 29 (by decide) (by decide)
    have r31 := lo 31 (by decide) (by decide)
    have c1 : (tkC (mu C 34 0 (nI (nl - 1))) k (nl - 1 - k)) 1 = C 1 := by rw [tkC_row (by decide) (by decide) (by decide) (by decide) (by decide) (by decide), mu_row (by decide)]
    have c3 : (tkC (mu C 34 0 (nI (nl - 1))) k (nl - 1 - k)) 3 = C 3 := by rw [tkC_row (by decide) (by decide) (by decide) (by decide) (by decide) (by decide), mu_row (by decide)]
    have c4 : (tkC (mu C 34 0 (nI (nl - 1))) k (nl - 1 - k)) 4 = C 4 := by rw [tkC_row (by decide) (by decide) (by decide) (by decide) (by decide) (by decide), mu_row (by decide)]
    have c5 : (tkC (mu C 34 0 (nI (nl - 1))) k (nl - 1 - k)) 5 = C 5 := by rw [tkC_row (by decide) (by decide) (by decide) (by decide) (by decide) (by decide), mu_row (by decide)]
    have c9 : (tkC (mu C 34 0 (nI (nl - 1))) k (nl - 1 - k)) 9 = C 9 := by rw [tkC_row (by decide) (by decide) (by decide) (by decide) (by decide) (by decide), mu_row (by decide)]
    have c10 : (tkC (mu C 34 0 (nI (nl - 1))) k (nl - 1 - k)) 10 = C 10 := by rw [tkC_row (by decide) (by decide) (by decide) (by decide) (by decide) (by decide), mu_row (by decide)]
    have c11 : (tkC (mu C 34 0 (nI (nl - 1))) k (nl - 1 - k)) 11 = C 11 := by rw [tkC_row (by decide) (by decide) (by decide) (by decide) (by decide) (by decide), mu_row (by decide)]
    have c12 : (tkC (mu C 34 0 (nI (nl - 1))) k (nl - 1 - k)) 12 = C 12 := by rw [tkC_row (by decide) (by decide) (by decide) (by decide) (by decide) (by decide), mu_row (by decide)]
    have c15 : (tkC (mu C 34 0 (nI (nl - 1))) k (nl - 1 - k)) 15 = C 15 := by rw [tkC_row (by decide) (by decide) (by decide) (by decide) (by decide) (by decide), mu_row (by decide)]
    have c16 : (tkC (mu C 34 0 (nI (nl - 1))) k (nl - 1 - k)) 16 = C 16 := by rw [tkC_row (by decide) (by decide) (by decide) (by decide) (by decide) (by decide), mu_row (by decide)]
    have c17 : (tkC (mu C 34 0 (nI (nl - 1))) k (nl - 1 - k)) 17 = C 17 := by rw [tkC_row (by decide) (by decide) (by decide) (by decide) (by decide) (by decide), mu_row (by decide)]
    have c18 : (tkC (mu C 34 0 (nI (nl - 1))) k (nl - 1 - k)) 18 = C 18 := by rw [tkC_row (by decide) (by decide) (by decide) (by decide) (by decide) (by decide), mu_row (by decide)]
    have c22 : (tkC (mu C 34 0 (nI (nl - 1))) k (nl - 1 - k)) 22 = C 22 := by rw [tkC_row (by decide) (by decide) (by decide) (by decide) (by decide) (by decide), mu_row (by decide)]
    have c23 : (tkC (mu C 34 0 (nI (nl - 1))) k (nl - 1 - k)) 23 = C 23 := by rw [tkC_row (by decide) (by decide) (by decide) (by decide) (by decide) (by decide), mu_row (by decide)]
    have c27 : (tkC (mu C 34 0 (nI (nl - 1))) k (nl - 1 - k)) 27 = C 27 := by rw [tkC_row (by decide) (by decide) (by decide) (by decide) (by decide) (by decide), mu_row (by decide)]
    have c28 : (tkC (mu C 34 0 (nI (nl - 1))) k (nl - 1 - k)) 28 = C 28 := by rw [tkC_row (by decide) (by decide) (by decide) (by decide) (by decide) (by decide), mu_row (by decide)]
    have c50 : (tkC (mu C 34 0 (nI (nl - 1))) k (nl - 1 - k)) 50 = C 50 := by rw [tkC_row (by decide) (by decide) (by decide) (by decide) (by decide) (by decide), mu_row (by decide)]
    have c51 : (tkC (mu C 34 0 (nI (nl - 1))) k (nl - 1 - k)) 51 = C 51 := by rw [tkC_row (by decide) (by decide) (by decide) (by decide) (by decide) (by decide), mu_row (by decide)]
    have c52 : (tkC (mu C 34 0 (nI (nl - 1))) k (nl - 1 - k)) 52 = C 52 := by rw [tkC_row (by decide) (by decide) (by decide) (by decide) (by decide) (by decide), mu_row (by decide)]
    have c53 : (tkC (mu C 34 0 (nI (nl - 1))) k (nl - 1 - k)) 53 = C 53 := by rw [tkC_row (by decide) (by decide) (by decide) (by decide) (by decide) (by decide), mu_row (by decide)]
    have c54 : (tkC (mu C 34 0 (nI (nl - 1))) k (nl - 1 - k)) 54 = C 54 := by rw [tkC_row (by decide) (by decide) (by decide) (by decide) (by decide) (by decide), mu_row (by decide)]
    have c55 : (tkC (mu C 34 0 (nI (nl - 1))) k (nl - 1 - k)) 55 = C 55 := by rw [tkC_row (by decide) (by decide) (by decide) (by decide) (by decide) (by decide), mu_row (by decide)]
    have c56 : (tkC (mu C 34 0 (nI (nl - 1))) k (nl - 1 - k)) 56 = C 56 := by rw [tkC_row (by decide) (by decide) (by decide) (by decide) (by decide) (by decide), mu_row (by decide)]
    have c57 : (tkC (mu C 34 0 (nI (nl - 1))) k (nl - 1 - k)) 57 = C 57 := by rw [tkC_row (by decide) (by decide) (by decide) (by decide) (by decide) (by decide), mu_row (by decide)]
    have c58 : (tkC (mu C 34 0 (nI (nl - 1))) k (nl - 1 - k)) 58 = C 58 := by rw [tkC_row (by decide) (by decide) (by decide) (by decide) (by decide) (by decide), mu_row (by decide)]
    have c59 : (tkC (mu C 34 0 (nI (nl - 1))) k (nl - 1 - k)) 59 = C 59 := by rw [tkC_row (by decide) (by decide) (by decide) (by decide) (by decide) (by decide), mu_row (by decide)]
    have c60 : (tkC (mu C 34 0 (nI (nl - 1))) k (nl - 1 - k)) 60 = C 60 := by rw [tkC_row (by decide) (by decide) (by decide) (by decide) (by decide) (by decide), mu_row (by decide)]
    have c62 : (tkC (mu C 34 0 (nI (nl - 1))) k (nl - 1 - k)) 62 = C 62 := by rw [tkC_row (by decide) (by decide) (by decide) (by decide) (by decide) (by decide), mu_row (by decide)]
    have c63 : (tkC (mu C 34 0 (nI (nl - 1))) k (nl - 1 - k)) 63 = C 63 := by rw [tkC_row (by decide) (by decide) (by decide) (by decide) (by decide) (by decide), mu_row (by decide)]
    have c64 : (tkC (mu C 34 0 (nI (nl - 1))) k (nl - 1 - k)) 64 = C 64 := by rw [tkC_row (by decide) (by decide) (by decide) (by decide) (by decide) (by decide), mu_row (by decide)]
    have c65 : (tkC (mu C 34 0 (nI (nl - 1))) k (nl - 1 - k)) 65 = C 65 := by rw [tkC_row (by decide) (by decide) (by decide) (by decide) (by decide) (by decide), mu_row (by decide)]
    have c66 : (tkC (mu C 34 0 (nI (nl - 1))) k (nl - 1 - k)) 66 = C 66 := by rw [tkC_row (by decide) (by decide) (by decide) (by decide) (by decide) (by decide), mu_row (by decide)]
    refine ⟨?_, ?_, ?_, ?_, ?_, ?_, ?_, ?_, ?_, ?_⟩
    · obtain ⟨m1, m2, m3, m4, m5, m6, m7, m8⟩ := M1
      exact ⟨by rw [c1]; exact m1, by rw [c5]; exact m2, by rw [tkC_row (by decide) (by decide) (by decide) (by decide) (by decide) (by decide), mu_same], by rw [c60, r2]; exact m4, by rw [c27, r27]; exact m5, m6, m7, lu_eq⟩
    · exact MG_rows r3 r9 r10 r15 r16 r17 r18 r22 r23 r28 c3 c9 c10 c15 c16 c17 c18 c22 c23 c28 MG
    · exact ME_rows r13 r14 r19 c50 c51 ME
    · exact mC_rows r19 r20 r21 r23 r25 r26 c52 c53 c54 c55 c56 (fun _ => rfl) MC
    · exact MT_rows r23 r25 r26 c57 c58 MT
    · exact MK_rows r28 r31 c59 c66 MK
    · exact MO_rows r4 c4 MO
    · exact MP_rows r6 r7 r8 c62 c63 c64 MP
    · exact MQ_rows r10 r11 r12 r29 c11 c12 c65 (fun _ => rfl) MQ
    · intro y hy
      have hy2 : (if y < k then y else y + 1) < nl := by split <;> omega
      have l := ML _ hy2
      have cm : ∀ j, j ≠ 34 → (mu C 34 0 (nI (nl - 1))) j = C j := fun j q => mu_row q
      have tc : ∀ j, (35 ≤ j ∧ j ≤ 38) ∨ j = 67 → tkC (mu C 34 0 (nI (nl - 1))) k (nl - 1 - k) j y = C j (if y < k then y else y + 1) := fun j q => by
        rw [t1 j y q, cm j (by omega)]
        by_cases z : y < k
        · rw [if_neg (by omega), if_pos z]
        · rw [if_pos (by omega), if_neg z]
      have t8 : ∀ i, i < 256 → tkC (mu C 34 0 (nI (nl - 1))) k (nl - 1 - k) 68 (256 * y + i) = C 68 (256 * (if y < k then y else y + 1) + i) := fun i hi => by
        rw [t2, cm 68 (by decide)]
        by_cases z : y < k
        · rw [if_neg (by omega), if_pos z]
        · rw [if_pos (by omega), if_neg z]; exact congrArg (C 68) (by omega)
      have n39 : N (dl0 S k nl) 39 y = N S 39 (if y < k then y else y + 1) := by
        show (dl0 S k nl 39 y).toNatClampNeg = _; rw [sl 39 y (by decide) (by decide) hy]
      have w256 : S 35 (if y < k then y else y + 1) = 2 → N S 39 (if y < k then y else y + 1) ≤ 256 := fun e => by
        obtain ⟨f, t, -, -, -, -, hv⟩ := LVs _ hy2
        rcases hv with ⟨k1, -⟩ | ⟨k1, -⟩ | ⟨-, -, -, -, k2, k3, -⟩ | ⟨k1, -⟩
        · rw [e] at k1; exact absurd k1 (by decide)
        · rw [e] at k1; exact absurd k1 (by decide)
        · show (S 39 _).toNatClampNeg ≤ 256; rw [k2, nI_clamp (by omega)]; exact k3
        · rw [e] at k1; exact absurd k1 (by decide)
      unfold mL1
      rw [tc 35 (by decide), tc 36 (by decide), tc 37 (by decide), tc 38 (by decide), tc 67 (by decide), sl 35 y (by decide) (by decide) hy, sl 36 y (by decide) (by decide) hy, sl 37 y (by decide) (by decide) hy, sl 38 y (by decide) (by decide) hy, sl 39 y (by decide) (by decide) hy, n39]
      obtain ⟨l1, l2, l3, l4, l5, l6, l7⟩ := l
      refine ⟨l1, l2, l3, l4, l5, fun z i hi => ?_, fun z i hi => ?_⟩
      · have := w256 z
        rw [t8 i (by omega), c41 y i hy (by omega)]; exact l6 z i hi
      · rw [t8 i (by omega), c41 y i hy (by omega)]; exact l7 z i hi
  · rw [IX_rows (fun j q _ _ q0 => lo j (by omega) (by omega))]; exact IXh
  · have hy2 : (if y < k then y else y + 1) < nl := by split <;> omega
    unfold LVk
    rw [er, sl 35 y (by decide) (by decide) hy, sl 36 y (by decide) (by decide) hy, sl 37 y (by decide) (by decide) hy, sl 38 y (by decide) (by decide) hy, sl 39 y (by decide) (by decide) hy, sl 40 y (by decide) (by decide) hy]
    exact LV_cong (fun i hi => (c41 y i hy hi).symm) (LVs _ hy2)
theorem tok_W {a p : Nat} {m : Int32} (W : WI S C n np nl T sz A dd noH 8 8) (ha : a < n) (hna : ¬ vhd S n a) (hw : vwt S n p a) (hm : m = S 18 p) :
    ∃ A' dd', WI (rt0 S a (nI p) m) (tk0 C a (nI p) m) n np nl T sz A' dd' (fun x => x = a) a 8 := by
  obtain ⟨w1, B, M, IXh, LVs, CDh, Z5h⟩ := W
  have n8 := B.1.2.1
  have hI := (IX8 n8).mp IXh
  obtain ⟨D, E, -⟩ := id IXh
  have hpn := hw.1
  have h13 : S 13 a = 0 := Decidable.byContradiction (fun q => hna ⟨ha, q⟩)
  have cc0 : N S 21 a = 0 := by
    rcases Nat.eq_zero_or_pos (N S 21 a) with q | q
    · exact q
    · obtain ⟨c, hc, ec⟩ := B.2.2.2.2.2.2.2.2.2.2.1 a 0 ha q
      exact absurd (D.1.2.2.2.2.1 a c ⟨ha, by omega, 0, q, ec⟩).2.2.2 hna
  rw [hm]
  have row : ∀ j, j ≠ 13 → j ≠ 16 → j ≠ 17 → j ≠ 18 → (rt0 S a (nI p) (S 18 p)) j = S j := fun j q1 q2 q3 q4 => by rw [rt0, mu_row q4, mu_row q3, mu_row q2, mu_row q1]
  refine ⟨_, _, by rw [row 2 (by decide) (by decide) (by decide) (by decide)]; exact w1, BI_tok ha (Or.inr ⟨p, hpn, rfl⟩) B, SIM_tok n8 ha h13 M, (IX8 n8).mpr (IS_tok hI n8 (fun x q => q) ha hna hw cc0 B.2.2.2.2.2.2.2.2.2.2.1), fun k hk => ?_, CD_r CDh (row 20 (by decide) (by decide) (by decide) (by decide)) (row 21 (by decide) (by decide) (by decide) (by decide)), Z5_r Z5h (row 10 (by decide) (by decide) (by decide) (by decide)) (fun _ => rfl)⟩
  have := LVs k hk
  unfold LVk at *
  rw [row 35 (by decide) (by decide) (by decide) (by decide), row 36 (by decide) (by decide) (by decide) (by decide), row 37 (by decide) (by decide) (by decide) (by decide), row 38 (by decide) (by decide) (by decide) (by decide), row 39 (by decide) (by decide) (by decide) (by decide), row 40 (by decide) (by decide) (by decide) (by decide), row 41 (by decide) (by decide) (by decide) (by decide)]
  exact LV_tok D ha hna this
abbrev bk1 (S : mS) (a b : Nat) : mS := mu (mu (mu (mu S 18 a (S 18 b)) 20 (8 * a + N S 21 a) (nI b)) 21 a (nI (N S 21 a + 1))) 19 a (-1)
theorem back_W {a b : Nat} {m : Int32} (W : WI S C n np nl T sz A dd noH 8 8) (hw : vwt S n a b) (hb : vth S n b) (hm : m = S 18 b) :
    WI (bk1 S a b) (mu C 18 a m) n np nl T sz A dd (fun x => x = a) a 8 := by
  obtain ⟨w1, B, M, IXh, LVs, CDh, Z5h⟩ := W
  have n8 := B.1.2.1
  have hI := (IX8 n8).mp IXh
  obtain ⟨D, E, NIh, -⟩ := id IXh
  have ha : a < n := hw.1
  have hbn : b < n := hb.1
  have k1 := D.1.2.2.2.2.2.1 a b hw
  have h7x : ∀ x, x < n → N S 21 x ≤ 7 := fun x hx => (B.2.2.2.2.2.2.2.2.2.1 x (by omega)).2.2.2.2.2.1.2
  have hcc : N S 21 a < 7 := by
    have c1 := csm_ge B D NIh ha
    have c2 := NIh.1 a k1.1
    have c3 := NIh.2 a b hw (D.1.2.1 b hb)
    have c4 := NIh.1 b (D.1.2.1 b hb)
    have c5 : pm S b ≤ 8 := pcN_le (S 18 b) 8
    omega
  have row : ∀ j, j ≠ 18 → j ≠ 19 → j ≠ 20 → j ≠ 21 → (bk1 S a b) j = S j := fun j q1 q2 q3 q4 => by rw [bk1, mu_row q2, mu_row q4, mu_row q3, mu_row q1]
  refine ⟨by rw [row 2 (by decide) (by decide) (by decide) (by decide)]; exact w1, BI_back ha hbn hcc B, SIM_hx a (SIM_back n8 ha hw hm h7x M) n8, (IX8 n8).mpr (IS_back hI n8 (fun x q => q) hw hb h7x B.2.2.2.2.2.2.2.2.2.2.1), fun k hk => ?_, fun x k k' hx hkk hk' => ?_, Z5_r Z5h (row 10 (by decide) (by decide) (by decide) (by decide)) (fun _ => rfl)⟩
  · have := LVs k hk
    unfold LVk at *
    rw [row 35 (by decide) (by decide) (by decide) (by decide), row 36 (by decide) (by decide) (by decide) (by decide), row 37 (by decide) (by decide) (by decide) (by decide), row 38 (by decide) (by decide) (by decide) (by decide), row 39 (by decide) (by decide) (by decide) (by decide), row 40 (by decide) (by decide) (by decide) (by decide), row 41 (by decide) (by decide) (by decide) (by decide)]
    exact LV_back D hw hb this
  · have e20 : ∀ y, (bk1 S a b) 20 y = if y = 8 * a + N S 21 a then nI b else S 20 y := fun y => by simp [mu]
    have e21 : (bk1 S a b) 21 x = if x = a then nI (N S 21 a + 1) else S 21 x := by simp [mu]
    have hk2 : k' < ((bk1 S a b) 21 x).toNatClampNeg := hk'
    rw [e21] at hk2
    rw [e20, e20]
    by_cases z : x = a
    · rw [if_pos z, nI_clamp (by omega)] at hk2
      rw [z, if_neg (by omega)]
      by_cases y : k' = N S 21 a
      · rw [if_pos (by omega)]
        intro e
        have hch : vch S n a b := ⟨ha, by omega, k, by omega, e⟩
        exact k1.2.2.1 (D.1.2.2.2.2.1 a b hch).2.2.1
      · rw [if_neg (by omega)]; exact CDh a k k' ha hkk (by omega)
    · rw [if_neg z] at hk2
      have hk3 : k' < N S 21 x := hk2
      have := h7x x hx
      rw [if_neg (by omega), if_neg (by omega)]; exact CDh x k k' hx hkk hk3
end
