/-! CLASS AND REFERENCE, call by call. Written by wip/whole/gen/p86.py -/
section
variable {L L' sz sz' : Nat → Nat → Nat} {S C S' C' : mS} {n np nl T : Nat} {oc : jm_O} {v : Option Value}
theorem INV_0 {y : Int32} (h : INV S C n np nl T sz) : INV (mu S 0 0 y) C n np nl T sz := by
  by_cases hs : S 2 0 = 0
  · have pre := inv_pre h hs
    obtain ⟨B, M, -⟩ := h
    have row : ∀ j, j ≠ 0 → (mu S 0 0 y) j = S j := fun j q => mu_row q
    refine ⟨?_, ?_, Or.inl ⟨by rw [row 2 (by decide)]; exact hs, pre.1, fun j q1 q2 => by rw [row j (by omega)]; exact pre.2.1 j q1 q2, by rw [row 9 (by decide)]; exact pre.2.2.1, by rw [row 4 (by decide)]; exact pre.2.2.2.1, by rw [row 8 (by decide)]; exact pre.2.2.2.2.1, pre.2.2.2.2.2⟩⟩
    · have := B; unfold BI at *; simp only [nn, N, vnb] at *
      rw [row 1 (by decide), row 2 (by decide), row 3 (by decide), row 4 (by decide), row 5 (by decide), row 6 (by decide), row 7 (by decide), row 8 (by decide), row 9 (by decide), row 12 (by decide), row 13 (by decide), row 14 (by decide), row 15 (by decide), row 16 (by decide), row 19 (by decide), row 20 (by decide), row 21 (by decide), row 23 (by decide), row 26 (by decide), row 28 (by decide), row 29 (by decide), row 34 (by decide)]
      exact this
    · obtain ⟨M1, MG, ME, MC, MT, MK, MO, MP, MQ, ML⟩ := M
      exact ⟨M1_rows (row 2 (by decide)) (row 27 (by decide)) rfl rfl rfl rfl rfl rfl rfl rfl M1, MG_rows (row 3 (by decide)) (row 9 (by decide)) (row 10 (by decide)) (row 15 (by decide)) (row 16 (by decide)) (row 17 (by decide)) (row 18 (by decide)) (row 22 (by decide)) (row 23 (by decide)) (row 28 (by decide)) rfl rfl rfl rfl rfl rfl rfl rfl rfl rfl MG, ME_rows (row 13 (by decide)) (row 14 (by decide)) (row 19 (by decide)) rfl rfl ME, mC_rows (row 19 (by decide)) (row 20 (by decide)) (row 21 (by decide)) (row 23 (by decide)) (row 25 (by decide)) (row 26 (by decide)) rfl rfl rfl rfl rfl (fun _ => rfl) MC, MT_rows (row 23 (by decide)) (row 25 (by decide)) (row 26 (by decide)) rfl rfl MT, MK_rows (row 28 (by decide)) (row 31 (by decide)) rfl rfl MK, MO_rows (row 4 (by decide)) rfl MO, MP_rows (row 6 (by decide)) (row 7 (by decide)) (row 8 (by decide)) rfl rfl rfl MP, MQ_rows (row 10 (by decide)) (row 11 (by decide)) (row 12 (by decide)) (row 29 (by decide)) rfl rfl rfl (fun _ => rfl) MQ, ML_rows (row 35 (by decide)) (row 36 (by decide)) (row 37 (by decide)) (row 38 (by decide)) (row 39 (by decide)) (row 41 (by decide)) rfl rfl rfl rfl rfl rfl ML⟩
  · obtain ⟨A, dd, W⟩ := inv_WI h hs
    exact WI_inv (WI_0 W)
/-- the number that the law's own method gives for an outcome -/
def kc2 : jm_O → Int32
  | .inl _ => 0
  | .inr 0 => 1
  | .inr _ => 2
def kcS : jm_O → Int32
  | .inl _ => 0
  | .inr _ => 1
def kc3 : jm_O → Int32
  | .inl _ => 0
  | .inr 0 => 1
  | .inr 2 => 2
  | .inr _ => 3
/-- both have gone the same step -/
def OKS (kc : jm_O → Int32) (oc : jm_O) (v : Option Value) (S' C' : mS) (sz' : Nat → Nat → Nat) (T : Nat) : Prop :=
  (∃ n np nl T', 1 ≤ T' ∧ T' ≤ T + 1 ∧ INV S' C' n np nl T' sz') ∧ S' 0 0 = kc oc ∧ ∀ y z, oc = .inl (some (.int y)) → v = some (.int z) → y = z
theorem wk_0 {a np : Nat} {r : Int32} : wkC S a r np 0 = S 0 := wk_keep (by decide) (by decide) (by decide)
theorem ch_0 {a np : Nat} {r : Int32} : chC S a r np 0 = S 0 := by
  show chS S a r np _ _ 0 = _
  unfold chS
  funext i
  rw [pcF_lo (by decide), mu_row (by decide), mu_row (by decide), mu_row (by decide), mu_row (by decide), mu_row (by decide)]
  unfold rsR; rw [if_neg (fun q => by omega)]
theorem hd_0 {a n np : Nat} : hdC S a n np 0 = S 0 := hd_keep (by decide) (by decide) (by decide) (by decide) (by decide)
theorem dv_0 {n np a b : Nat} : dvS S n np a b 0 = S 0 := by
  unfold dvS
  split
  · split
    · rw [hd_0, rt0, mu_row (by decide), mu_row (by decide), mu_row (by decide), mu_row (by decide)]
    · split
      · exact pst_lo (by decide)
      · rfl
  · split
    · split
      · rw [hd_0, bk0, mu_row (by decide), mu_row (by decide), mu_row (by decide)]
      · rfl
    · split
      · split
        · rw [wk_0]; funext i; simp [tb0, cpB, tb1, mu]
        · rfl
      · split
        · rw [ch_0]; funext i; simp [ch0, cpB]
        · rfl
theorem dl_0 {q nl : Nat} : dl0 S q nl 0 0 = 0 := by
  unfold dl0
  rw [mu_row (by decide), (shL_r (S := cpL (mu S 0 0 0) q 20) (k := q) (nl - 1 - q)).2.2 0 (by decide), cpL_lo (by decide)]
  rfl
theorem rk_0 {U : mS} : ∀ k, rkF U n np k 0 = U 0
  | 0 => rfl
  | k + 1 => by
    have ih := rk_0 (U := U) k
    rw [rkF]
    split
    · rw [hd_0, rt0, mu_row (by decide), mu_row (by decide), mu_row (by decide), mu_row (by decide)]; exact ih
    · exact ih
theorem ag_0 {a cc : Nat} : agS S a cc 0 = S 0 := by
  have h1 : ∀ T : mS, ag1 T a 0 = T 0 := fun T => by unfold ag1; split; rfl; exact pst_lo (by decide)
  have h2 : ∀ T : mS, ag2 T a 0 = T 0 := fun T => by unfold ag2; split; rfl; exact pst_lo (by decide)
  have h3 : ∀ T : mS, ag3 T a 0 = T 0 := fun T => by unfold ag3; split; rfl; exact pt_lo (by decide)
  have h4 : ∀ T : mS, ag4 T a cc 0 = T 0 := fun T => by unfold ag4; split; rfl; exact funext fun i => pcF_lo (by decide) _
  unfold agS
  rw [h4, h3, h2, h1]
theorem s2_iff (hI : INV S C n np nl T sz) : C 60 0 = 0 ↔ S 2 0 ≠ 0 := by
  have h60 := (inv_sc hI).2.2.2.2.2.2.2.2.2.2.1
  rw [h60]
  by_cases z : S 2 0 = 0
  · rw [if_pos z]; exact ⟨fun e => absurd e (by decide), fun e => absurd z e⟩
  · rw [if_neg z]; exact ⟨fun _ => z, fun _ => rfl⟩
theorem ok_agent {z : Int32} (hI : INV S C n np nl T sz) (hT : 1 ≤ T) (qc : (fun oc L' sz' C' => (¬ (2 ≤ z ∧ z ≤ 4) ∧ oc = .inr 0 ∧ L' = L ∧ sz' = sz ∧ C' = C) ∨ ((2 ≤ z ∧ z ≤ 4) ∧ (C 60 0 = 0 ∨ C 1 0 = 8) ∧ oc = .inr 1 ∧ L' = L ∧ sz' = sz ∧ C' = C) ∨ ((2 ≤ z ∧ z ≤ 4) ∧ ¬ (C 60 0 = 0 ∨ C 1 0 = 8) ∧ n < 8 ∧ oc = .inl (some (.int (nI n))) ∧ sz' = lu sz 1 0 (n + 1) ∧ C' = mu (nwA C n z) 1 0 (nI (n + 1)))) oc L' sz' C') (qm : (fun v S' => (thAgent S z ≠ 0 ∧ S' = mu S 0 0 (thAgent S z) ∧ v = some (.int 0)) ∨ (thAgent S z = 0 ∧ n < 8 ∧ S' = mu (mu (mu S 0 0 0) 3 n z) 1 0 (nI (n + 1)) ∧ v = some (.int (nI n)))) v S') : OKS kc2 oc v S' C' sz' T := by
  obtain ⟨hS1, h8, hS5, h12, hS34, h20, hS2, hn, hp, hn34, h60, hs8, hs6, hs20⟩ := inv_sc hI
  have s2 := s2_iff hI
  rcases qc with ⟨c1, rfl, -, rfl, rfl⟩ | ⟨c1, c2, rfl, -, rfl, rfl⟩ | ⟨c1, c2, c3, rfl, rfl, rfl⟩
  · have th : thAgent S z = 1 := (thF_1 c1).symm
    rcases qm with ⟨-, rfl, rfl⟩ | ⟨q, -⟩
    · rw [th]; exact ⟨⟨n, np, nl, T, hT, by omega, INV_0 hI⟩, rfl, fun y z e => by cases e⟩
    · rw [th] at q; exact absurd q (by decide)
  · have th : thAgent S z = 2 := (thF_2 (not_not_intro c1) (c2.imp s2.mp (fun e => by rw [hS1, ← hn]; exact e))).symm
    rcases qm with ⟨-, rfl, rfl⟩ | ⟨q, -⟩
    · rw [th]; exact ⟨⟨n, np, nl, T, hT, by omega, INV_0 hI⟩, rfl, fun y z e => by cases e⟩
    · rw [th] at q; exact absurd q (by decide)
  · have th : thAgent S z = 0 := (thF_3 (not_not_intro c1) (fun q => c2 (q.imp s2.mpr (fun e => by rw [hn, ← hS1]; exact e)))).symm
    rcases qm with ⟨q, -⟩ | ⟨-, -, rfl, rfl⟩
    · exact absurd th q
    · exact ⟨⟨n + 1, np, nl, T, hT, by omega, agent_step hI (Decidable.byContradiction (fun q => c2 (Or.inl (s2.mpr q)))) c3 c1⟩, by simp [mu, kc2], fun y w e f => by cases e; cases f; rfl⟩
theorem ok_own {a x c : Int32} (hI : INV S C n np nl T sz) (hT : 1 ≤ T) (qc : (fun oc L' sz' C' => (¬ (isVaC C a x ∧ (c = -2 ∨ (0 ≤ c ∧ c ≤ 999))) ∧ oc = .inr 0 ∧ L' = L ∧ sz' = sz ∧ C' = C) ∨ ((isVaC C a x ∧ (c = -2 ∨ (0 ≤ c ∧ c ≤ 999))) ∧ C 60 0 = 0 ∧ oc = .inr 1 ∧ L' = L ∧ sz' = sz ∧ C' = C) ∨ ((isVaC C a x ∧ (c = -2 ∨ (0 ≤ c ∧ c ≤ 999))) ∧ ¬ C 60 0 = 0 ∧ oc = .inl none ∧ sz' = sz ∧ ∃ k w, k < n ∧ w < 4 ∧ a = nI k ∧ x = nI w ∧ C' = mu C 4 (4 * k + w) c)) oc L' sz' C') (qm : (fun v9 S' => v9 = none ∧ ((thOwn S a x c ≠ 0 ∧ S' = mu S 0 0 (thOwn S a x c)) ∨ (thOwn S a x c = 0 ∧ ∃ k w, k < n ∧ w < 4 ∧ a = nI k ∧ x = nI w ∧ S' = mu (mu S 0 0 0) 4 (4 * k + w) (farS c)))) v S') : OKS kc2 oc v S' C' sz' T := by
  obtain ⟨hS1, h8, hS5, h12, hS34, h20, hS2, hn, hp, hn34, h60, hs8, hs6, hs20⟩ := inv_sc hI
  have s2 := s2_iff hI
  have vs := va_same hI a x
  obtain ⟨-, qm⟩ := qm
  rcases qc with ⟨c1, rfl, -, rfl, rfl⟩ | ⟨c1, c2, rfl, -, rfl, rfl⟩ | ⟨c1, c2, rfl, rfl, k, w, hk, hw, rfl, rfl, rfl⟩
  · have th : thOwn S a x c = 1 := (thF_1 (by
      by_cases q : isValueS S a x
      · exact Or.inr (fun q2 => c1 ⟨vs.mpr q, q2⟩)
      · exact Or.inl q)).symm
    rcases qm with ⟨-, rfl⟩ | ⟨q, -⟩
    · rw [th]; exact ⟨⟨n, np, nl, T, hT, by omega, INV_0 hI⟩, rfl, fun y z e => by cases e⟩
    · rw [th] at q; exact absurd q (by decide)
  · have th : thOwn S a x c = 2 := (thF_2 (fun q => q.elim (fun q => q (vs.mp c1.1)) (fun q => q c1.2)) (s2.mp c2)).symm
    rcases qm with ⟨-, rfl⟩ | ⟨q, -⟩
    · rw [th]; exact ⟨⟨n, np, nl, T, hT, by omega, INV_0 hI⟩, rfl, fun y z e => by cases e⟩
    · rw [th] at q; exact absurd q (by decide)
  · have th : thOwn S (nI k) (nI w) c = 0 := (thF_3 (fun q => q.elim (fun q => q (vs.mp c1.1)) (fun q => q c1.2)) (fun q => c2 (s2.mpr q))).symm
    rcases qm with ⟨q, -⟩ | ⟨-, k', w', hk', hw', e1, e2, rfl⟩
    · exact absurd th q
    · have e1' : k = k' := nI_inj (by omega) (by omega) e1
      have e2' : w = w' := nI_inj (by omega) (by omega) e2
      subst e1'; subst e2'
      exact ⟨⟨n, np, nl, T, hT, by omega, own_step hI (Decidable.byContradiction (fun q => c2 (s2.mpr q))) hk hw c1.2⟩, by simp [mu, kc2], fun y w e => by cases e⟩
theorem ok_pair {a b : Int32} (hI : INV S C n np nl T sz) (hT : 1 ≤ T) (qc : (fun oc L' sz' C' => (¬ (isAgC C a ∧ isAgC C b ∧ a ≠ b) ∧ oc = .inr 0 ∧ L' = L ∧ sz' = sz ∧ C' = C) ∨ ((isAgC C a ∧ isAgC C b ∧ a ≠ b) ∧ (C 60 0 = 0 ∨ C 5 0 = 12 ∨ pfC (C 62) (C 63) a b np 0 ≠ -1) ∧ oc = .inr 1 ∧ L' = L ∧ sz' = sz ∧ C' = C) ∨ ((isAgC C a ∧ isAgC C b ∧ a ≠ b) ∧ ¬ (C 60 0 = 0 ∨ C 5 0 = 12 ∨ pfC (C 62) (C 63) a b np 0 ≠ -1) ∧ np < 12 ∧ oc = .inl (some (.int (nI (np + 1)))) ∧ sz' = lu sz 6 0 (np + 1) ∧ ∃ k l, k < n ∧ l < n ∧ k ≠ l ∧ a = nI k ∧ b = nI l ∧ C' = mu (mu (mu (nwQ C np (if a ≤ b then a else b) (if b ≤ a then a else b)) 5 0 (nI (np + 1))) 9 k (C 9 k ||| 1 <<< (b &&& 31))) 9 l (C 9 l ||| 1 <<< (a &&& 31)))) oc L' sz' C') (qm : (fun v9 S' => (thPair S np a b ≠ 0 ∧ S' = mu S 0 0 (thPair S np a b) ∧ v9 = some (.int 0)) ∨ (thPair S np a b = 0 ∧ np < 12 ∧ ∃ k l, k < n ∧ l < n ∧ k ≠ l ∧ a = nI k ∧ b = nI l ∧ v9 = some (.int (nI (np + 1))) ∧ S' = mu (mu (mu (mu (mu (mu S 0 0 0) 6 np a) 7 np b) 5 0 (nI (np + 1))) 9 k (S 9 k ||| 1 <<< (b &&& 31))) 9 l (S 9 l ||| 1 <<< (a &&& 31)))) v S') : OKS kc2 oc v S' C' sz' T := by
  obtain ⟨hS1, h8, hS5, h12, hS34, h20, hS2, hn, hp, hn34, h60, hs8, hs6, hs20⟩ := inv_sc hI
  have s2 := s2_iff hI
  have sa := ag_same hn hS1 h8 a
  have sb := ag_same hn hS1 h8 b
  have e : pfC (C 62) (C 63) a b np 0 = pairF S a b np 0 := pf_eq hI.2.1.2.2.2.2.2.2.2.1 (bi_fg hI.1) a b np 0 (by omega)
  have pn : (0 ≤ pairF S a b np 0) ↔ pfC (C 62) (C 63) a b np 0 ≠ -1 := by
    rw [e]
    exact ⟨fun q z => absurd ((pairF_neg h12).mpr z) (Int32.not_lt.mpr q), fun q => Int32.not_lt.mp (fun z => q ((pairF_neg h12).mp z))⟩
  rcases qc with ⟨c1, rfl, -, rfl, rfl⟩ | ⟨c1, c2, rfl, -, rfl, rfl⟩ | ⟨c1, c2, c3, rfl, rfl, k, l, hk, hl, hkl, rfl, rfl, rfl⟩
  · have th : thPair S np a b = 1 := (thF_1 (by
      by_cases q : isAgentS S a
      · by_cases q2 : isAgentS S b
        · exact Or.inr (Or.inr (Decidable.byContradiction (fun z => c1 ⟨sa.mpr q, sb.mpr q2, z⟩)))
        · exact Or.inr (Or.inl q2)
      · exact Or.inl q)).symm
    rcases qm with ⟨-, rfl, rfl⟩ | ⟨q, -⟩
    · rw [th]; exact ⟨⟨n, np, nl, T, hT, by omega, INV_0 hI⟩, rfl, fun y z e => by cases e⟩
    · rw [th] at q; exact absurd q (by decide)
  · have th : thPair S np a b = 2 := (thF_2 (fun q => q.elim (fun q => q (sa.mp c1.1)) (fun q => q.elim (fun q => q (sb.mp c1.2.1)) c1.2.2)) (by
      rcases c2 with q | q | q
      · exact Or.inl (s2.mp q)
      · exact Or.inr (Or.inr (by rw [hS5, ← hp]; exact q))
      · exact Or.inr (Or.inl (pn.mpr q)))).symm
    rcases qm with ⟨-, rfl, rfl⟩ | ⟨q, -⟩
    · rw [th]; exact ⟨⟨n, np, nl, T, hT, by omega, INV_0 hI⟩, rfl, fun y z e => by cases e⟩
    · rw [th] at q; exact absurd q (by decide)
  · have th : thPair S np (nI k) (nI l) = 0 := (thF_3 (fun q => q.elim (fun q => q (sa.mp c1.1)) (fun q => q.elim (fun q => q (sb.mp c1.2.1)) c1.2.2)) (fun q => c2 (by
      rcases q with q | q | q
      · exact Or.inl (s2.mpr q)
      · exact Or.inr (Or.inr (pn.mp q))
      · exact Or.inr (Or.inl (by rw [hp, ← hS5]; exact q))))).symm
    rcases qm with ⟨q, -⟩ | ⟨-, -, k', l', hk', hl', -, e1, e2, rfl, rfl⟩
    · exact absurd th q
    · have e1' : k = k' := nI_inj (by omega) (by omega) e1
      have e2' : l = l' := nI_inj (by omega) (by omega) e2
      subst e1'; subst e2'
      exact ⟨⟨n, np + 1, nl, T, hT, by omega, pair_step hI (Decidable.byContradiction (fun q => c2 (Or.inl (s2.mpr q)))) hk hl hkl c3⟩, by simp [mu, kc2], fun y w e f => by cases e; cases f; rfl⟩
theorem ok_cost {a b x w c : Int32} (hI : INV S C n np nl T sz) (hT : 1 ≤ T) (qc : (fun oc L' sz' C' => (¬ (pwC C np a b x w ≠ -1 ∧ (c = -2 ∨ (0 ≤ c ∧ c ≤ 999))) ∧ oc = .inr 0 ∧ L' = L ∧ sz' = sz ∧ C' = C) ∨ ((pwC C np a b x w ≠ -1 ∧ (c = -2 ∨ (0 ≤ c ∧ c ≤ 999))) ∧ C 60 0 = 0 ∧ oc = .inr 1 ∧ L' = L ∧ sz' = sz ∧ C' = C) ∨ ((pwC C np a b x w ≠ -1 ∧ (c = -2 ∨ (0 ≤ c ∧ c ≤ 999))) ∧ ¬ C 60 0 = 0 ∧ oc = .inl none ∧ sz' = sz ∧ ∃ p k v' w', p < np ∧ k < n ∧ v' < 4 ∧ w' < 4 ∧ pwC C np a b x w = nI p ∧ a = nI k ∧ x = nI v' ∧ w = nI w' ∧ C' = mu C 64 (16 * p + (if C 62 p = nI k then 4 * v' + w' else 4 * w' + v')) c)) oc L' sz' C') (qm : (fun v9 S' => v9 = none ∧ ((thCost S np a b x w c ≠ 0 ∧ S' = mu S 0 0 (thCost S np a b x w c)) ∨ (thCost S np a b x w c = 0 ∧ ∃ p v' w', pairF S a b np 0 = nI p ∧ p < np ∧ v' < 4 ∧ w' < 4 ∧ x = nI v' ∧ w = nI w' ∧ S' = mu (mu S 0 0 0) 8 (plS S p a v' w') (farS c)))) v S') : OKS kc2 oc v S' C' sz' T := by
  obtain ⟨hS1, h8, hS5, h12, hS34, h20, hS2, hn, hp, hn34, h60, hs8, hs6, hs20⟩ := inv_sc hI
  have s2 := s2_iff hI
  have ps := pc_same hI a b x w c
  obtain ⟨-, qm⟩ := qm
  rcases qc with ⟨c1, rfl, -, rfl, rfl⟩ | ⟨c1, c2, rfl, -, rfl, rfl⟩ | ⟨c1, c2, rfl, rfl, p, k, v', w', hp', hk, hv, hw, e0, rfl, rfl, rfl, rfl⟩
  · have th : thCost S np a b x w c = 1 := (thF_1 (show ¬ isPC S np a b x w c from fun q => c1 (ps.mp q))).symm
    rcases qm with ⟨-, rfl⟩ | ⟨q, -⟩
    · rw [th]; exact ⟨⟨n, np, nl, T, hT, by omega, INV_0 hI⟩, rfl, fun y z e => by cases e⟩
    · rw [th] at q; exact absurd q (by decide)
  · have th : thCost S np a b x w c = 2 := (thF_2 (not_not_intro (ps.mpr c1)) (s2.mp c2)).symm
    rcases qm with ⟨-, rfl⟩ | ⟨q, -⟩
    · rw [th]; exact ⟨⟨n, np, nl, T, hT, by omega, INV_0 hI⟩, rfl, fun y z e => by cases e⟩
    · rw [th] at q; exact absurd q (by decide)
  · have th : thCost S np (nI k) b (nI v') (nI w') c = 0 := (thF_3 (not_not_intro (ps.mpr c1)) (fun q => c2 (s2.mpr q))).symm
    rcases qm with ⟨q, -⟩ | ⟨-, p2, v2, w2, f0, hp2, hv2, hw2, e1, e2, rfl⟩
    · exact absurd th q
    · have e1' : v' = v2 := nI_inj (by omega) (by omega) e1
      have e2' : w' = w2 := nI_inj (by omega) (by omega) e2
      subst e1'; subst e2'
      have e : pfC (C 62) (C 63) (nI k) b np 0 = pairF S (nI k) b np 0 := pf_eq hI.2.1.2.2.2.2.2.2.2.1 (bi_fg hI.1) (nI k) b np 0 (by omega)
      have e3 : pwC C np (nI k) b (nI v') (nI w') = pairF S (nI k) b np 0 := by
        by_cases z : isVaC C (nI k) (nI v') ∧ isVaC C b (nI w')
        · unfold pwC; rw [if_pos z, e]
        · exact absurd (by unfold pwC; rw [if_neg z]) c1.1
      have e4 : p = p2 := nI_inj (by omega) (by omega) (e0.symm.trans (e3.trans f0))
      subst e4
      have fg := pairF_fg np 0 p f0 (by omega) (by omega)
      exact ⟨⟨n, np, nl, T, hT, by omega, cost_step hI (Decidable.byContradiction (fun q => c2 (s2.mpr q))) hp' (by omega) (fg.imp (fun q => q.1) (fun q => q.2)) hv hw c1.2⟩, by simp [mu, kc2], fun y w e => by cases e⟩
theorem ok_start (hI : INV S C n np nl T sz) (hT : 1 ≤ T) (qc : (fun oc L' sz' C' => (thStart S = 1 ∧ oc = .inr 1 ∧ L' = L ∧ sz' = sz ∧ C' = C) ∨ (thStart S = 0 ∧ ∃ nl' A dd, oc = .inl (some (.int (nI (spN (st0 S) n (MM (st0 S) n) n)))) ∧ WI (rkF (spF (st0 S) n (MM (st0 S) n) n) n np n) C' n np nl' T sz' A dd noH 8 8 ∧ rkQ (spF (st0 S) n (MM (st0 S) n) n) n np)) oc L' sz' C') (qm : (fun v9 S' => (thStart S = 1 ∧ S' = mu S 0 0 1 ∧ v9 = some (.int 0)) ∨ (thStart S = 0 ∧ S' = rkF (spF (st0 S) n (MM (st0 S) n) n) n np n ∧ v9 = some (.int (nI (spN (st0 S) n (MM (st0 S) n) n))))) v S') : OKS kcS oc v S' C' sz' T := by
  rcases qc with ⟨th, rfl, -, rfl, rfl⟩ | ⟨th, nl', A, dd, rfl, W, -⟩
  · rcases qm with ⟨-, rfl, rfl⟩ | ⟨q, -⟩
    · exact ⟨⟨n, np, nl, T, hT, by omega, INV_0 hI⟩, rfl, fun y z e => by cases e⟩
    · rw [th] at q; exact absurd q (by decide)
  · rcases qm with ⟨q, -⟩ | ⟨-, rfl, rfl⟩
    · rw [th] at q; exact absurd q (by decide)
    · exact ⟨⟨n, np, nl', T, hT, by omega, WI_inv W⟩, by rw [rk_0, spF_lo (by decide) (by decide) (by decide)]; rfl, fun y w e f => by cases e; cases f; rfl⟩
theorem ok_letter {k y : Int32} (hI : INV S C n np nl T sz) (hT : 1 ≤ T) (qc : (fun oc L' sz' C' => (thLet S k y = 1 ∧ oc = .inr 0 ∧ L' = L ∧ sz' = sz ∧ C' = C) ∨ (thLet S k y = 2 ∧ oc = .inr 2 ∧ L' = L ∧ sz' = sz ∧ C' = C) ∨ (thLet S k y = 3 ∧ oc = .inr 1 ∧ L' = L ∧ sz' = sz ∧ C' = C) ∨ (thLet S k y = 0 ∧ kL L L' ∧ ∃ q, q < nl ∧ k = nI q ∧ ∃ S' nl' A dd, oc = .inl (some (.int (nI nl'))) ∧ WI S' C' n np nl' T sz' A dd noH 8 8 ∧ ((y = 2 ∧ nl < 20 ∧ S' = mu (cpL (mu S 0 0 0) q nl) 34 0 (nI (nl + 1))) ∨ (y = 1 ∧ S' = dl0 S q nl) ∨ (y = 0 ∧ S' = dvS (dl0 S q nl) n np (N S 37 q) (N S 36 q))))) oc L' sz' C') (qm : (fun v9 S' => (thLet S k y ≠ 0 ∧ S' = mu S 0 0 (thLet S k y) ∧ v9 = some (.int 0)) ∨ (thLet S k y = 0 ∧ ∃ q, q < nl ∧ k = nI q ∧ ((y = 2 ∧ nl < 20 ∧ S' = mu (cpL (mu S 0 0 0) q nl) 34 0 (nI (nl + 1)) ∧ v9 = some (.int (nI (nl + 1)))) ∨ (y = 1 ∧ S' = dl0 S q nl ∧ v9 = some (.int (nI (nl - 1)))) ∨ (y = 0 ∧ S' = dvS (dl0 S q nl) n np (N S 37 q) (N S 36 q) ∧ v9 = some (.int (S' 34 0)))))) v S') : OKS kc3 oc v S' C' sz' T := by
  rcases qc with ⟨th, rfl, -, rfl, rfl⟩ | ⟨th, rfl, -, rfl, rfl⟩ | ⟨th, rfl, -, rfl, rfl⟩ | ⟨th, -, q, hq, e0, S2, nl', A, dd, rfl, W, hS2⟩
  · rcases qm with ⟨-, rfl, rfl⟩ | ⟨q, -⟩
    · rw [th]; exact ⟨⟨n, np, nl, T, hT, by omega, INV_0 hI⟩, rfl, fun y z e => by cases e⟩
    · rw [th] at q; exact absurd q (by decide)
  · rcases qm with ⟨-, rfl, rfl⟩ | ⟨q, -⟩
    · rw [th]; exact ⟨⟨n, np, nl, T, hT, by omega, INV_0 hI⟩, rfl, fun y z e => by cases e⟩
    · rw [th] at q; exact absurd q (by decide)
  · rcases qm with ⟨-, rfl, rfl⟩ | ⟨q, -⟩
    · rw [th]; exact ⟨⟨n, np, nl, T, hT, by omega, INV_0 hI⟩, rfl, fun y z e => by cases e⟩
    · rw [th] at q; exact absurd q (by decide)
  · have h20 := (inv_sc hI).2.2.2.2.2.1
    have w34 := W.2.1.1.2.2.2.2.1
    rcases qm with ⟨q, -⟩ | ⟨-, q', hq', e1, hS⟩
    · exact absurd th q
    · have e2 : q = q' := nI_inj (by omega) (by omega) (e0.symm.trans e1)
      subst e2
      rcases hS2 with ⟨z, -, rfl⟩ | ⟨z, rfl⟩ | ⟨z, rfl⟩
      · rcases hS with ⟨-, -, rfl, rfl⟩ | ⟨z2, -⟩ | ⟨z2, -⟩
        · refine ⟨⟨n, np, nl', T, hT, by omega, WI_inv W⟩, ?_, fun y w e f => ?_⟩
          · rw [mu_row (by decide), cpL_lo (by decide)]; rfl
          · cases e; cases f; rw [← w34]; simp [mu]
        · rw [z] at z2; exact absurd z2 (by decide)
        · rw [z] at z2; exact absurd z2 (by decide)
      · rcases hS with ⟨z2, -⟩ | ⟨-, rfl, rfl⟩ | ⟨z2, -⟩
        · rw [z] at z2; exact absurd z2 (by decide)
        · refine ⟨⟨n, np, nl', T, hT, by omega, WI_inv W⟩, dl_0, fun y w e f => ?_⟩
          cases e; cases f; rw [← w34]; exact (dl0_r hq h20).2.1
        · rw [z] at z2; exact absurd z2 (by decide)
      · rcases hS with ⟨z2, -⟩ | ⟨z2, -⟩ | ⟨-, rfl, rfl⟩
        · rw [z] at z2; exact absurd z2 (by decide)
        · rw [z] at z2; exact absurd z2 (by decide)
        · refine ⟨⟨n, np, nl', T, hT, by omega, WI_inv W⟩, by rw [dv_0]; exact dl_0, fun y w e f => ?_⟩
          cases e; cases f; exact w34.symm
theorem ok_again {y : Int32} (hI : INV S C n np nl T sz) (hT : 1 ≤ T) (qc : (fun oc L' sz' C' => (thAgain S y = 1 ∧ oc = .inr 0 ∧ L' = L ∧ sz' = sz ∧ C' = C) ∨ (thAgain S y = 2 ∧ oc = .inr 1 ∧ L' = L ∧ sz' = sz ∧ C' = C) ∨ (thAgain S y = 0 ∧ kL8 L L' ∧ ∃ a, a < n ∧ y = nI a ∧ ∃ nl' A dd, oc = .inl (some (.int (nI nl'))) ∧ WI (agS (mu S 0 0 0) a (N S 21 a)) C' n np nl' T sz' A dd noH 8 8)) oc L' sz' C') (qm : (fun v9 S' => (thAgain S y ≠ 0 ∧ S' = mu S 0 0 (thAgain S y) ∧ v9 = some (.int 0)) ∨ (thAgain S y = 0 ∧ ∃ a, a < n ∧ y = nI a ∧ S' = agS (mu S 0 0 0) a (N S 21 a) ∧ v9 = some (.int (S' 34 0)))) v S') : OKS kc2 oc v S' C' sz' T := by
  rcases qc with ⟨th, rfl, -, rfl, rfl⟩ | ⟨th, rfl, -, rfl, rfl⟩ | ⟨th, -, a, ha, e0, nl', A, dd, rfl, W⟩
  · rcases qm with ⟨-, rfl, rfl⟩ | ⟨q, -⟩
    · rw [th]; exact ⟨⟨n, np, nl, T, hT, by omega, INV_0 hI⟩, rfl, fun y z e => by cases e⟩
    · rw [th] at q; exact absurd q (by decide)
  · rcases qm with ⟨-, rfl, rfl⟩ | ⟨q, -⟩
    · rw [th]; exact ⟨⟨n, np, nl, T, hT, by omega, INV_0 hI⟩, rfl, fun y z e => by cases e⟩
    · rw [th] at q; exact absurd q (by decide)
  · rcases qm with ⟨q, -⟩ | ⟨-, a', ha', e1, rfl, rfl⟩
    · exact absurd th q
    · have n8 := (inv_sc hI).2.1
      have e2 : a = a' := nI_inj (by omega) (by omega) (e0.symm.trans e1)
      subst e2
      refine ⟨⟨n, np, nl', T, hT, by omega, WI_inv W⟩, by rw [ag_0]; rfl, fun y w e f => ?_⟩
      cases e; cases f; exact W.2.1.1.2.2.2.2.1.symm
theorem ok_change {a b x w c : Int32} (hI : INV S C n np nl T sz) (hT : 1 ≤ T) (qc : (fun oc L' sz' C' => (thChange S n np a b x w c = 1 ∧ oc = .inr 0 ∧ L' = L ∧ sz' = sz ∧ C' = C) ∨ (thChange S n np a b x w c = 2 ∧ oc = .inr 1 ∧ L' = L ∧ sz' = sz ∧ C' = C) ∨ (thChange S n np a b x w c = 0 ∧ kL8 L L' ∧ ∃ k l p v' w' q nl' A dd, cgI S n np a b x w k l p v' w' q ∧ oc = .inl (some (.int (nI nl'))) ∧ WI (wkC (cg0 S p k v' w' c q) (if cI (S 17 k) b then k else l) (S 12 q + 1) np) C' n np nl' (T + 1) sz' A dd noH 8 8)) oc L' sz' C') (qm : (fun v9 S' => (thChange S n np a b x w c ≠ 0 ∧ S' = mu S 0 0 (thChange S n np a b x w c) ∧ v9 = some (.int 0)) ∨ (thChange S n np a b x w c = 0 ∧ ∃ k l p v' w' q, cgI S n np a b x w k l p v' w' q ∧ S' = wkC (cg0 S p k v' w' c q) (if cI (S 17 k) b then k else l) (S 12 q + 1) np ∧ v9 = some (.int (S' 34 0)))) v S') : OKS kc2 oc v S' C' sz' T := by
  rcases qc with ⟨th, rfl, -, rfl, rfl⟩ | ⟨th, rfl, -, rfl, rfl⟩ | ⟨th, -, k, l, p, v', w', q, nl', A, dd, hc, rfl, W⟩
  · rcases qm with ⟨-, rfl, rfl⟩ | ⟨q, -⟩
    · rw [th]; exact ⟨⟨n, np, nl, T, hT, by omega, INV_0 hI⟩, rfl, fun y z e => by cases e⟩
    · rw [th] at q; exact absurd q (by decide)
  · rcases qm with ⟨-, rfl, rfl⟩ | ⟨q, -⟩
    · rw [th]; exact ⟨⟨n, np, nl, T, hT, by omega, INV_0 hI⟩, rfl, fun y z e => by cases e⟩
    · rw [th] at q; exact absurd q (by decide)
  · rcases qm with ⟨q, -⟩ | ⟨-, k2, l2, p2, v2, w2, q2, hc2, rfl, rfl⟩
    · exact absurd th q
    · have n8 := (inv_sc hI).2.1
      have n12 := (inv_sc hI).2.2.2.1
      obtain ⟨a1, a2, a3, a4, a5, a6, a7, a8, a9, a10, a11, a12⟩ := hc
      obtain ⟨b1, b2, b3, b4, b5, b6, b7, b8, b9, b10, b11, b12⟩ := hc2
      have e1 : k = k2 := nI_inj (by omega) (by omega) (a3.symm.trans b3)
      have e2 : l = l2 := nI_inj (by omega) (by omega) (a4.symm.trans b4)
      have e3 : p = p2 := nI_inj (by omega) (by omega) (a5.symm.trans b5)
      have e4 : v' = v2 := nI_inj (by omega) (by omega) (a9.symm.trans b9)
      have e5 : w' = w2 := nI_inj (by omega) (by omega) (a10.symm.trans b10)
      subst e1
      have e6 : q = q2 := nI_inj (by omega) (by omega) (a11.symm.trans b11)
      subst e2; subst e3; subst e4; subst e5; subst e6
      refine ⟨⟨n, np, nl', T + 1, by omega, by omega, WI_inv W⟩, by rw [wk_0]; simp [cg0, mu, kc2], fun y w e f => ?_⟩
      cases e; cases f; exact W.2.1.1.2.2.2.2.1.symm
end
