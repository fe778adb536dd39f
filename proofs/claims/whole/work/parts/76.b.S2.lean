/-! SIMULATION S2. Laid by wip/whole/gen/p71.py -/
section
variable {S C : mS} {n np nl T : Nat} {sz : Nat → Nat → Nat}
theorem mC_rows {T D : mS} {sz' : Nat → Nat → Nat} (h19 : T 19 = S 19) (h20 : T 20 = S 20) (h21 : T 21 = S 21) (h23 : T 23 = S 23) (h25 : T 25 = S 25) (h26 : T 26 = S 26) (c52 : D 52 = C 52) (c53 : D 53 = C 53) (c54 : D 54 = C 54) (c55 : D 55 = C 55) (c56 : D 56 = C 56) (hz : ∀ a, sz' 4 a = sz 4 a) (h : mC S C n sz) : mC T D n sz' := by
  intro a ha
  have e1 : chn T a = chn S a := by simp only [chn, N, h19, h21]
  have e2 : ∀ k, chd T a k = chd S a k := fun k => by simp only [chd, N, h19, h20, h21]
  have := h a ha
  rw [e1, hz, c52, c53, c54, c55, c56]
  simp only [e2, N, h23, h25, h26] at this ⊢
  exact this
theorem far_un {c : Int32} (h : isCostS c) : un (farS c) = c ∧ farS c = nI (farS c).toNatClampNeg ∧ (farS c).toNatClampNeg ≤ 1048576 ∧ ((farS c).toNatClampNeg < 1048576 → (farS c).toNatClampNeg ≤ 999) := by
  unfold farS
  rcases h with h | ⟨h1, h2⟩
  · rw [if_pos h, h]; decide
  · obtain ⟨j, hj, rfl⟩ := nI_of (x := c) (fun q => absurd (Int32.lt_of_le_of_lt h1 q) (by decide))
    have h3 : j ≤ 999 := (nI_leI (b := 999) hj (by omega)).mp h2
    rw [if_neg (nI_ne2 hj), nI_clamp hj]
    refine ⟨?_, rfl, by omega, fun _ => h3⟩
    have k : nI j ≠ 1048576 := fun q => by have := nI_inj (b := 1048576) (by omega) (by omega) q; omega
    unfold un; rw [if_neg k]
theorem mm_eq {x y a b : Int32} : ((if x ≤ y then x else y) = (if a ≤ b then a else b) ∧ (if x ≤ y then y else x) = (if b ≤ a then a else b)) ↔ (x = a ∧ y = b) ∨ (x = b ∧ y = a) := by
  simp only [Int32.le_iff_toInt_le, ← Int32.toInt_inj]
  rw [apply_ite Int32.toInt, apply_ite Int32.toInt, apply_ite Int32.toInt, apply_ite Int32.toInt]
  split <;> split <;> split <;> omega
theorem pf_eq (hP : mP S C np) (hB : ∀ p, p < np → ∃ f g, f < 8 ∧ g < 8 ∧ S 6 p = nI f ∧ S 7 p = nI g) (a b : Int32) : ∀ k p, p + k = np → pfC (C 62) (C 63) a b k p = pairF S a b k p
  | 0, _, _ => rfl
  | k + 1, p, h => by
    obtain ⟨f, g, q1, q2, q3, q4⟩ := hB p (by omega)
    obtain ⟨m1, m2, -⟩ := hP p (by omega) f g q1 q2 q3 q4
    have e1 : nI (if f ≤ g then f else g) = if nI f ≤ nI g then nI f else nI g := by
      by_cases z : f ≤ g
      · rw [if_pos z, if_pos (nI_le z (by omega))]
      · rw [if_neg z, if_neg (nI_ge (by omega) (by omega))]
    have e2 : nI (if f ≤ g then g else f) = if nI f ≤ nI g then nI g else nI f := by
      by_cases z : f ≤ g
      · rw [if_pos z, if_pos (nI_le z (by omega))]
      · rw [if_neg z, if_neg (nI_ge (by omega) (by omega))]
    rw [pfC, pairF, pf_eq hP hB a b k (p + 1) (by omega), m1, m2, e1, e2, q3, q4]
    by_cases z : (nI f = a ∧ nI g = b) ∨ (nI f = b ∧ nI g = a)
    · rw [if_pos z, if_pos (mm_eq.mpr z)]
    · rw [if_neg z, if_neg (fun y => z (mm_eq.mp y))]
theorem bi_fg (hB : BI S n np nl T) : ∀ p, p < np → ∃ f g, f < 8 ∧ g < 8 ∧ S 6 p = nI f ∧ S 7 p = nI g := fun p hp => by
  obtain ⟨f, g, h1, h2, h3, h4, -⟩ := hB.2.2.2.1 p hp
  have := hB.1.2.1
  exact ⟨f, g, by omega, by omega, h3, h4⟩
theorem own_step (h : INV S C n np nl T sz) (hs : S 2 0 = 0) {k w : Nat} {c : Int32} (hk : k < n) (hw : w < 4) (hc : isCostS c) :
    INV (mu (mu S 0 0 0) 4 (4 * k + w) (farS c)) (mu C 4 (4 * k + w) c) n np nl T (sz) := by
  have pre := inv_pre h hs
  have sc := inv_sc h
  obtain ⟨B, M, -⟩ := h
  obtain ⟨⟨b1, b2, b3, b4, b5, b6, b7⟩, B3, B2, BP, B4, B8, B26, B9, BN, BA, BC, BT⟩ := B
  obtain ⟨M1, MG, ME, MC, MT, MK, MO, MP, MQ, ML⟩ := M
  have rw1 : ∀ j, j ≠ 0 → j ≠ 4 → (mu (mu S 0 0 0) 4 (4 * k + w) (farS c)) j = S j := fun j q0 q4 => by
    rw [mu_row q4, mu_row q0]
  have rc : ∀ j, j ≠ 4 → (mu C 4 (4 * k + w) c) j = C j := fun j q4 => by
    rw [mu_row q4]
  refine ⟨?_, ?_, Or.inl ⟨by rw [rw1 2 (by decide) (by decide)]; exact hs, ?_⟩⟩
  · refine ⟨⟨by rw [rw1 1 (by decide) (by decide)]; exact b1, b2, by rw [rw1 5 (by decide) (by decide)]; exact b3, b4, by rw [rw1 34 (by decide) (by decide)]; exact b5, b6, by rw [rw1 2 (by decide) (by decide)]; exact b7⟩, ?_, ?_, ?_, ?_, ?_, ?_, ?_, ?_, ?_, ?_, BT⟩
    · simp only [nn, N]; rw [rw1 3 (by decide) (by decide)]; exact B3
    · simp only [N]; rw [rw1 3 (by decide) (by decide)]; exact B2
    · simp only [vnb]; rw [rw1 6 (by decide) (by decide), rw1 7 (by decide) (by decide), rw1 9 (by decide) (by decide)]; exact BP
    · intro i hi; unfold nn N; have e := far_un hc
      have : (mu (mu S 0 0 0) 4 (4 * k + w) (farS c)) 4 i = if i = 4 * k + w then farS c else S 4 i := by simp [mu]
      rw [this]; by_cases q : i = 4 * k + w
      · rw [if_pos q]; exact ⟨⟨e.2.1, e.2.2.1⟩, e.2.2.2⟩
      · rw [if_neg q]; exact B4 i hi
    · simp only [nn, N]; rw [rw1 8 (by decide) (by decide)]; exact B8
    · simp only [nn, N]; rw [rw1 26 (by decide) (by decide)]; exact B26
    · rw [rw1 9 (by decide) (by decide)]; exact B9
    · simp only [vnb]; rw [rw1 9 (by decide) (by decide)]; exact BN
    · simp only [nn, N]; rw [rw1 12 (by decide) (by decide), rw1 13 (by decide) (by decide), rw1 14 (by decide) (by decide), rw1 15 (by decide) (by decide), rw1 16 (by decide) (by decide), rw1 19 (by decide) (by decide), rw1 21 (by decide) (by decide), rw1 23 (by decide) (by decide), rw1 28 (by decide) (by decide), rw1 29 (by decide) (by decide)]; exact BA
    · simp only [N]; rw [rw1 20 (by decide) (by decide), rw1 21 (by decide) (by decide)]; exact BC
  · refine ⟨?_, ?_, ?_, ?_, ?_, ?_, ?_, ?_, ?_, ?_⟩
    · unfold mA1; rw [rc 1 (by decide), rc 5 (by decide), rc 34 (by decide), rc 60 (by decide), rc 27 (by decide), rw1 2 (by decide) (by decide), rw1 27 (by decide) (by decide)]; exact M1
    · unfold mG; rw [rc 3 (by decide), rc 9 (by decide), rc 10 (by decide), rc 15 (by decide), rc 16 (by decide), rc 17 (by decide), rc 18 (by decide), rc 22 (by decide), rc 23 (by decide), rc 28 (by decide), rw1 3 (by decide) (by decide), rw1 9 (by decide) (by decide), rw1 10 (by decide) (by decide), rw1 15 (by decide) (by decide), rw1 16 (by decide) (by decide), rw1 17 (by decide) (by decide), rw1 18 (by decide) (by decide), rw1 22 (by decide) (by decide), rw1 23 (by decide) (by decide), rw1 28 (by decide) (by decide)]; exact MG
    · unfold mE stg; rw [rc 50 (by decide), rc 51 (by decide), rw1 13 (by decide) (by decide), rw1 14 (by decide) (by decide), rw1 19 (by decide) (by decide)]; exact ME
    · exact mC_rows (rw1 19 (by decide) (by decide)) (rw1 20 (by decide) (by decide)) (rw1 21 (by decide) (by decide)) (rw1 23 (by decide) (by decide)) (rw1 25 (by decide) (by decide)) (rw1 26 (by decide) (by decide)) (rc 52 (by decide)) (rc 53 (by decide)) (rc 54 (by decide)) (rc 55 (by decide)) (rc 56 (by decide)) (fun _ => rfl) MC
    · unfold mT N; rw [rc 57 (by decide), rc 58 (by decide), rw1 23 (by decide) (by decide), rw1 25 (by decide) (by decide), rw1 26 (by decide) (by decide)]; exact MT
    · unfold mK; rw [rc 59 (by decide), rc 66 (by decide), rw1 28 (by decide) (by decide), rw1 31 (by decide) (by decide)]; exact MK
    · intro i hi
      have e1 : (mu (mu S 0 0 0) 4 (4 * k + w) (farS c)) 4 i = if i = 4 * k + w then farS c else S 4 i := by simp [mu]
      have e2 : (mu C 4 (4 * k + w) c) 4 i = if i = 4 * k + w then c else C 4 i := by simp [mu]
      rw [e1, e2]; by_cases q : i = 4 * k + w
      · rw [if_pos q, if_pos q]; exact (far_un hc).1.symm
      · rw [if_neg q, if_neg q]; exact MO i hi
    · unfold mP; rw [rc 62 (by decide), rc 63 (by decide), rc 64 (by decide), rw1 6 (by decide) (by decide), rw1 7 (by decide) (by decide), rw1 8 (by decide) (by decide)]; exact MP
    · unfold mQ N; rw [rc 11 (by decide), rc 12 (by decide), rc 65 (by decide), rw1 10 (by decide) (by decide), rw1 11 (by decide) (by decide), rw1 12 (by decide) (by decide), rw1 29 (by decide) (by decide)]; exact MQ
    · intro k hk; rw [pre.1] at hk; exact absurd hk (Nat.not_lt_zero _)
  · refine ⟨pre.1, fun j q1 q2 => by rw [rw1 j (by omega) (by omega)]; exact pre.2.1 j q1 q2, ?_, ?_, ?_, pre.2.2.2.2.2.1, pre.2.2.2.2.2.2⟩
    · rw [rw1 9 (by decide) (by decide)]; exact pre.2.2.1
    · intro i hi; have : (mu (mu S 0 0 0) 4 (4 * k + w) (farS c)) 4 i = S 4 i := by simp [mu]; omega
      rw [this]; exact pre.2.2.2.1 i hi
    · rw [rw1 8 (by decide) (by decide)]; exact pre.2.2.2.2.1
theorem mP_cost {p a v w : Nat} {c : Int32} {S' C' : mS} (hP : mP S C np) (hB : ∀ p, p < np → ∃ f g, f < 8 ∧ g < 8 ∧ S 6 p = nI f ∧ S 7 p = nI g) (hp : p < np) (ha : a < 8) (hpa : S 6 p = nI a ∨ S 7 p = nI a) (hv : v < 4) (hw : w < 4) (hc : isCostS c)
    (e6 : S' 6 = S 6) (e7 : S' 7 = S 7) (e8 : S' 8 = (mu S 8 (plS S p (nI a) v w) (farS c)) 8) (c62 : C' 62 = C 62) (c63 : C' 63 = C 63) (c64 : C' 64 = (mu C 64 (16 * p + (if C 62 p = nI a then 4 * v + w else 4 * w + v)) c) 64) (hfg : ∀ f g, S 6 p = nI f → S 7 p = nI g → f < 8 → g < 8 → f ≠ g) : mP S' C' np := by
  intro p' hp' f g hf hg q1 q2
  rw [e6] at q1; rw [e7] at q2
  obtain ⟨m1, m2, m3⟩ := hP p' hp' f g hf hg q1 q2
  rw [c62, c63]
  refine ⟨m1, m2, fun x y hx hy => ?_⟩
  rw [e8, c64]
  have s8 : ∀ i, (mu S 8 (plS S p (nI a) v w) (farS c)) 8 i = if i = plS S p (nI a) v w then farS c else S 8 i := fun i => by simp [mu]
  have s64 : ∀ i, (mu C 64 (16 * p + (if C 62 p = nI a then 4 * v + w else 4 * w + v)) c) 64 i = if i = 16 * p + (if C 62 p = nI a then 4 * v + w else 4 * w + v) then c else C 64 i := fun i => by simp [mu]
  rw [s8, s64]
  by_cases e : p' = p
  · subst e
    have hne := hfg f g q1 q2 hf hg
    have hfa : ∀ z, z < 8 → (nI z = nI a ↔ z = a) := fun z hz => ⟨fun q => nI_inj (by omega) (by omega) q, fun q => by rw [q]⟩
    have ab : f = a ∨ g = a := by
      rcases hpa with q | q
      · exact Or.inl ((hfa f hf).mp (q1 ▸ q))
      · exact Or.inr ((hfa g hg).mp (q2 ▸ q))
    have ci : (C 62 p' = nI a) ↔ (if f ≤ g then f else g) = a := by rw [m1]; exact hfa _ (by split <;> omega)
    have si : (S 6 p' = nI a) ↔ f = a := by rw [q1]; exact hfa f hf
    have E : (16 * p' + (if f ≤ g then 4 * x + y else 4 * y + x) = plS S p' (nI a) v w) ↔ (16 * p' + (4 * x + y) = 16 * p' + (if C 62 p' = nI a then 4 * v + w else 4 * w + v)) := by
      show (_ = 16 * p' + (if S 6 p' = nI a then 4 * v + w else 4 * w + v)) ↔ _
      by_cases z1 : f ≤ g
      · rw [if_pos z1] at ci ⊢
        by_cases z2 : f = a
        · rw [if_pos (si.mpr z2), if_pos (ci.mpr z2)]
        · rw [if_neg (fun q => z2 (si.mp q)), if_neg (fun q => z2 (ci.mp q))]
      · rw [if_neg z1] at ci ⊢
        by_cases z2 : f = a
        · rw [if_pos (si.mpr z2), if_neg (fun q => by have := ci.mp q; omega)]; omega
        · rw [if_neg (fun q => z2 (si.mp q)), if_pos (ci.mpr (by omega))]; omega
    by_cases z : 16 * p' + (4 * x + y) = 16 * p' + (if C 62 p' = nI a then 4 * v + w else 4 * w + v)
    · rw [if_pos z, if_pos (E.mpr z)]; exact (far_un hc).1.symm
    · rw [if_neg z, if_neg (fun q => z (E.mp q))]; exact m3 x y hx hy
  · have l1 : (if C 62 p = nI a then 4 * v + w else 4 * w + v) < 16 := by split <;> omega
    have l2 : (if S 6 p = nI a then 4 * v + w else 4 * w + v) < 16 := by split <;> omega
    have l3 : (if f ≤ g then 4 * x + y else 4 * y + x) < 16 := by split <;> omega
    rw [if_neg (by omega), if_neg (by show ¬ _ = 16 * p + (if S 6 p = nI a then 4 * v + w else 4 * w + v); omega)]
    exact m3 x y hx hy
theorem b8_cost {p a v w : Nat} {c : Int32} (hp : p < 12) (hv : v < 4) (hw : w < 4) (hc : isCostS c) (B8 : ∀ i, i < 192 → nn S 8 i 1048576 ∧ (N S 8 i < 1048576 → N S 8 i ≤ 999)) {S' : mS} (e8 : S' 8 = (mu S 8 (plS S p (nI a) v w) (farS c)) 8) : ∀ i, i < 192 → nn S' 8 i 1048576 ∧ (N S' 8 i < 1048576 → N S' 8 i ≤ 999) := by
  intro i hi
  unfold nn N
  have s8 : ∀ i, (mu S 8 (plS S p (nI a) v w) (farS c)) 8 i = if i = plS S p (nI a) v w then farS c else S 8 i := fun i => by simp [mu]
  rw [e8, s8]
  have e := far_un hc
  by_cases q : i = plS S p (nI a) v w
  · rw [if_pos q]; exact ⟨⟨e.2.1, e.2.2.1⟩, e.2.2.2⟩
  · rw [if_neg q]; exact B8 i hi
theorem cost_step (h : INV S C n np nl T sz) (hs : S 2 0 = 0) {p a v w : Nat} {c : Int32} (hp : p < np) (ha : a < 8) (hpa : S 6 p = nI a ∨ S 7 p = nI a) (hv : v < 4) (hw : w < 4) (hc : isCostS c) :
    INV (mu (mu S 0 0 0) 8 (plS S p (nI a) v w) (farS c)) (mu C 64 (16 * p + (if C 62 p = nI a then 4 * v + w else 4 * w + v)) c) n np nl T (sz) := by
  have pre := inv_pre h hs
  have sc := inv_sc h
  obtain ⟨B, M, -⟩ := h
  obtain ⟨⟨b1, b2, b3, b4, b5, b6, b7⟩, B3, B2, BP, B4, B8, B26, B9, BN, BA, BC, BT⟩ := B
  obtain ⟨M1, MG, ME, MC, MT, MK, MO, MP, MQ, ML⟩ := M
  have rw1 : ∀ j, j ≠ 0 → j ≠ 8 → (mu (mu S 0 0 0) 8 (plS S p (nI a) v w) (farS c)) j = S j := fun j q0 q8 => by
    rw [mu_row q8, mu_row q0]
  have rc : ∀ j, j ≠ 64 → (mu C 64 (16 * p + (if C 62 p = nI a then 4 * v + w else 4 * w + v)) c) j = C j := fun j q64 => by
    rw [mu_row q64]
  refine ⟨?_, ?_, Or.inl ⟨by rw [rw1 2 (by decide) (by decide)]; exact hs, ?_⟩⟩
  · refine ⟨⟨by rw [rw1 1 (by decide) (by decide)]; exact b1, b2, by rw [rw1 5 (by decide) (by decide)]; exact b3, b4, by rw [rw1 34 (by decide) (by decide)]; exact b5, b6, by rw [rw1 2 (by decide) (by decide)]; exact b7⟩, ?_, ?_, ?_, ?_, ?_, ?_, ?_, ?_, ?_, ?_, BT⟩
    · simp only [nn, N]; rw [rw1 3 (by decide) (by decide)]; exact B3
    · simp only [N]; rw [rw1 3 (by decide) (by decide)]; exact B2
    · simp only [vnb]; rw [rw1 6 (by decide) (by decide), rw1 7 (by decide) (by decide), rw1 9 (by decide) (by decide)]; exact BP
    · simp only [nn, N]; rw [rw1 4 (by decide) (by decide)]; exact B4
    · exact b8_cost (p := p) (a := a) (v := v) (w := w) (c := c) (by omega) hv hw hc B8 (by funext i; simp [mu])
    · simp only [nn, N]; rw [rw1 26 (by decide) (by decide)]; exact B26
    · rw [rw1 9 (by decide) (by decide)]; exact B9
    · simp only [vnb]; rw [rw1 9 (by decide) (by decide)]; exact BN
    · simp only [nn, N]; rw [rw1 12 (by decide) (by decide), rw1 13 (by decide) (by decide), rw1 14 (by decide) (by decide), rw1 15 (by decide) (by decide), rw1 16 (by decide) (by decide), rw1 19 (by decide) (by decide), rw1 21 (by decide) (by decide), rw1 23 (by decide) (by decide), rw1 28 (by decide) (by decide), rw1 29 (by decide) (by decide)]; exact BA
    · simp only [N]; rw [rw1 20 (by decide) (by decide), rw1 21 (by decide) (by decide)]; exact BC
  · refine ⟨?_, ?_, ?_, ?_, ?_, ?_, ?_, ?_, ?_, ?_⟩
    · unfold mA1; rw [rc 1 (by decide), rc 5 (by decide), rc 34 (by decide), rc 60 (by decide), rc 27 (by decide), rw1 2 (by decide) (by decide), rw1 27 (by decide) (by decide)]; exact M1
    · unfold mG; rw [rc 3 (by decide), rc 9 (by decide), rc 10 (by decide), rc 15 (by decide), rc 16 (by decide), rc 17 (by decide), rc 18 (by decide), rc 22 (by decide), rc 23 (by decide), rc 28 (by decide), rw1 3 (by decide) (by decide), rw1 9 (by decide) (by decide), rw1 10 (by decide) (by decide), rw1 15 (by decide) (by decide), rw1 16 (by decide) (by decide), rw1 17 (by decide) (by decide), rw1 18 (by decide) (by decide), rw1 22 (by decide) (by decide), rw1 23 (by decide) (by decide), rw1 28 (by decide) (by decide)]; exact MG
    · unfold mE stg; rw [rc 50 (by decide), rc 51 (by decide), rw1 13 (by decide) (by decide), rw1 14 (by decide) (by decide), rw1 19 (by decide) (by decide)]; exact ME
    · exact mC_rows (rw1 19 (by decide) (by decide)) (rw1 20 (by decide) (by decide)) (rw1 21 (by decide) (by decide)) (rw1 23 (by decide) (by decide)) (rw1 25 (by decide) (by decide)) (rw1 26 (by decide) (by decide)) (rc 52 (by decide)) (rc 53 (by decide)) (rc 54 (by decide)) (rc 55 (by decide)) (rc 56 (by decide)) (fun _ => rfl) MC
    · unfold mT N; rw [rc 57 (by decide), rc 58 (by decide), rw1 23 (by decide) (by decide), rw1 25 (by decide) (by decide), rw1 26 (by decide) (by decide)]; exact MT
    · unfold mK; rw [rc 59 (by decide), rc 66 (by decide), rw1 28 (by decide) (by decide), rw1 31 (by decide) (by decide)]; exact MK
    · unfold mO; rw [rc 4 (by decide), rw1 4 (by decide) (by decide)]; exact MO
    · refine mP_cost MP (fun p hp => ?_) hp ha hpa hv hw hc (rw1 6 (by decide) (by decide)) (rw1 7 (by decide) (by decide)) (by funext i; simp [mu]) (rc 62 (by decide)) (rc 63 (by decide)) rfl (fun f g q1 q2 hf hg e => ?_)
      · obtain ⟨f, g, h1, h2, h3, h4, -⟩ := BP p hp
        exact ⟨f, g, by omega, by omega, h3, h4⟩
      · obtain ⟨f', g', h1, h2, h3, h4, h5⟩ := BP p hp
        have z1 : f = f' := nI_inj (by omega) (by omega) (q1.symm.trans h3)
        have z2 : g = g' := nI_inj (by omega) (by omega) (q2.symm.trans h4)
        exact (BN _ _ h5).2.1 (by omega)
    · unfold mQ N; rw [rc 11 (by decide), rc 12 (by decide), rc 65 (by decide), rw1 10 (by decide) (by decide), rw1 11 (by decide) (by decide), rw1 12 (by decide) (by decide), rw1 29 (by decide) (by decide)]; exact MQ
    · intro k hk; rw [pre.1] at hk; exact absurd hk (Nat.not_lt_zero _)
  · refine ⟨pre.1, fun j q1 q2 => by rw [rw1 j (by omega) (by omega)]; exact pre.2.1 j q1 q2, ?_, ?_, ?_, pre.2.2.2.2.2.1, pre.2.2.2.2.2.2⟩
    · rw [rw1 9 (by decide) (by decide)]; exact pre.2.2.1
    · rw [rw1 4 (by decide) (by decide)]; exact pre.2.2.2.1
    · intro i hi
      have : (mu (mu S 0 0 0) 8 (plS S p (nI a) v w) (farS c)) 8 i = S 8 i := by
        have l2 : (if S 6 p = nI a then 4 * v + w else 4 * w + v) < 16 := by split <;> omega
        have : i ≠ plS S p (nI a) v w := by show i ≠ 16 * p + (if S 6 p = nI a then 4 * v + w else 4 * w + v); omega
        simp [mu, this]
      rw [this]; exact pre.2.2.2.2.1 i hi
theorem or_bit : ∀ m, m < 256 → ∀ l, l < 8 → (nI m ||| 1 <<< (nI l &&& 31)) = nI (m ||| 2 ^ l) ∧ m ||| 2 ^ l < 256 := by decide +kernel
theorem pair_step (h : INV S C n np nl T sz) (hs : S 2 0 = 0) {k l : Nat} (hk : k < n) (hl : l < n) (hkl : k ≠ l) (h12 : np < 12) :
    INV (mu (mu (mu (mu (mu (mu S 0 0 0) 6 np (nI k)) 7 np (nI l)) 5 0 (nI (np + 1))) 9 k (S 9 k ||| 1 <<< (nI l &&& 31))) 9 l (S 9 l ||| 1 <<< (nI k &&& 31))) (mu (mu (mu (nwQ C np (if nI k ≤ nI l then nI k else nI l) (if nI l ≤ nI k then nI k else nI l)) 5 0 (nI (np + 1))) 9 k (C 9 k ||| 1 <<< (nI l &&& 31))) 9 l (C 9 l ||| 1 <<< (nI k &&& 31))) n (np + 1) nl T (lu sz 6 0 (np + 1)) := by
  have pre := inv_pre h hs
  have sc := inv_sc h
  obtain ⟨B, M, -⟩ := h
  obtain ⟨⟨b1, b2, b3, b4, b5, b6, b7⟩, B3, B2, BP, B4, B8, B26, B9, BN, BA, BC, BT⟩ := B
  obtain ⟨M1, MG, ME, MC, MT, MK, MO, MP, MQ, ML⟩ := M
  have rw1 : ∀ j, j ≠ 0 → j ≠ 5 → j ≠ 6 → j ≠ 7 → j ≠ 9 → (mu (mu (mu (mu (mu (mu S 0 0 0) 6 np (nI k)) 7 np (nI l)) 5 0 (nI (np + 1))) 9 k (S 9 k ||| 1 <<< (nI l &&& 31))) 9 l (S 9 l ||| 1 <<< (nI k &&& 31))) j = S j := fun j q0 q5 q6 q7 q9 => by
    rw [mu_row q9, mu_row q9, mu_row q5, mu_row q7, mu_row q6, mu_row q0]
  have rc : ∀ j, j ≠ 5 → j ≠ 9 → j ≠ 62 → j ≠ 63 → j ≠ 64 → (mu (mu (mu (nwQ C np (if nI k ≤ nI l then nI k else nI l) (if nI l ≤ nI k then nI k else nI l)) 5 0 (nI (np + 1))) 9 k (C 9 k ||| 1 <<< (nI l &&& 31))) 9 l (C 9 l ||| 1 <<< (nI k &&& 31))) j = C j := fun j q5 q9 q62 q63 q64 => by
    rw [mu_row q9, mu_row q9, mu_row q5, nwQ_row q62 q63 q64]
  have k8 : k < 8 := by omega
  have l8 : l < 8 := by omega
  have s9 : ∀ x, (mu (mu (mu (mu (mu (mu S 0 0 0) 6 np (nI k)) 7 np (nI l)) 5 0 (nI (np + 1))) 9 k (S 9 k ||| 1 <<< (nI l &&& 31))) 9 l (S 9 l ||| 1 <<< (nI k &&& 31))) 9 x = if x = l then S 9 l ||| 1 <<< (nI k &&& 31) else if x = k then S 9 k ||| 1 <<< (nI l &&& 31) else S 9 x := fun x => by simp [mu]
  have c9 : ∀ x, (mu (mu (mu (nwQ C np (if nI k ≤ nI l then nI k else nI l) (if nI l ≤ nI k then nI k else nI l)) 5 0 (nI (np + 1))) 9 k (C 9 k ||| 1 <<< (nI l &&& 31))) 9 l (C 9 l ||| 1 <<< (nI k &&& 31))) 9 x = if x = l then C 9 l ||| 1 <<< (nI k &&& 31) else if x = k then C 9 k ||| 1 <<< (nI l &&& 31) else C 9 x := fun x => by simp [mu, nwQ]
  have s6 : ∀ x, (mu (mu (mu (mu (mu (mu S 0 0 0) 6 np (nI k)) 7 np (nI l)) 5 0 (nI (np + 1))) 9 k (S 9 k ||| 1 <<< (nI l &&& 31))) 9 l (S 9 l ||| 1 <<< (nI k &&& 31))) 6 x = if x = np then nI k else S 6 x := fun x => by simp [mu]
  have s7 : ∀ x, (mu (mu (mu (mu (mu (mu S 0 0 0) 6 np (nI k)) 7 np (nI l)) 5 0 (nI (np + 1))) 9 k (S 9 k ||| 1 <<< (nI l &&& 31))) 9 l (S 9 l ||| 1 <<< (nI k &&& 31))) 7 x = if x = np then nI l else S 7 x := fun x => by simp [mu]
  have nbx : ∀ x y, vnb (mu (mu (mu (mu (mu (mu S 0 0 0) 6 np (nI k)) 7 np (nI l)) 5 0 (nI (np + 1))) 9 k (S 9 k ||| 1 <<< (nI l &&& 31))) 9 l (S 9 l ||| 1 <<< (nI k &&& 31))) n x y ↔ vnb S n x y ∨ (x = k ∧ y = l) ∨ (x = l ∧ y = k) := fun x y => by
    unfold vnb
    rw [s9]
    by_cases q1 : x = l
    · rw [if_pos q1, q1]
      constructor
      · intro z; rcases (cI_in k8 z.2.1).mp z.2.2 with z1 | z1
        · exact Or.inl ⟨z.1, z.2.1, z1⟩
        · exact Or.inr (Or.inr ⟨rfl, z1⟩)
      · intro z; rcases z with z | z | z
        · exact ⟨z.1, z.2.1, (cI_in k8 z.2.1).mpr (Or.inl z.2.2)⟩
        · exact absurd z.1.symm hkl
        · exact ⟨hl, by omega, (cI_in k8 (by omega)).mpr (Or.inr z.2)⟩
    · rw [if_neg q1]
      by_cases q2 : x = k
      · rw [if_pos q2, q2]
        constructor
        · intro z; rcases (cI_in l8 z.2.1).mp z.2.2 with z1 | z1
          · exact Or.inl ⟨z.1, z.2.1, z1⟩
          · exact Or.inr (Or.inl ⟨rfl, z1⟩)
        · intro z; rcases z with z | z | z
          · exact ⟨z.1, z.2.1, (cI_in l8 z.2.1).mpr (Or.inl z.2.2)⟩
          · exact ⟨hk, by omega, (cI_in l8 (by omega)).mpr (Or.inr z.2)⟩
          · exact absurd z.1 hkl
      · rw [if_neg q2]
        exact ⟨Or.inl, fun z => z.resolve_right (fun z => z.elim (fun z => q2 z.1) (fun z => q1 z.1))⟩
  refine ⟨?_, ?_, Or.inl ⟨by rw [rw1 2 (by decide) (by decide) (by decide) (by decide) (by decide)]; exact hs, ?_⟩⟩
  · refine ⟨⟨by rw [rw1 1 (by decide) (by decide) (by decide) (by decide) (by decide)]; exact b1, b2, by simp [mu], by omega, by rw [rw1 34 (by decide) (by decide) (by decide) (by decide) (by decide)]; exact b5, b6, by rw [rw1 2 (by decide) (by decide) (by decide) (by decide) (by decide)]; exact b7⟩, ?_, ?_, ?_, ?_, ?_, ?_, ?_, ?_, ?_, ?_, BT⟩
    · simp only [nn, N]; rw [rw1 3 (by decide) (by decide) (by decide) (by decide) (by decide)]; exact B3
    · simp only [N]; rw [rw1 3 (by decide) (by decide) (by decide) (by decide) (by decide)]; exact B2
    · intro p hp; rw [s6, s7]; by_cases q : p = np
      · rw [if_pos q, if_pos q]; exact ⟨k, l, hk, hl, rfl, rfl, (nbx k l).mpr (Or.inr (Or.inl ⟨rfl, rfl⟩))⟩
      · rw [if_neg q, if_neg q]; obtain ⟨f, g, q1, q2, q3, q4, q5⟩ := BP p (by omega)
        exact ⟨f, g, q1, q2, q3, q4, (nbx f g).mpr (Or.inl q5)⟩
    · simp only [nn, N]; rw [rw1 4 (by decide) (by decide) (by decide) (by decide) (by decide)]; exact B4
    · simp only [nn, N]; rw [rw1 8 (by decide) (by decide) (by decide) (by decide) (by decide)]; exact B8
    · simp only [nn, N]; rw [rw1 26 (by decide) (by decide) (by decide) (by decide) (by decide)]; exact B26
    · intro x hx; rw [s9]; by_cases q1 : x = l
      · rw [if_pos q1]; obtain ⟨m, hm, e⟩ := B9 l l8; have := or_bit m hm k k8; exact ⟨_, this.2, by rw [e, this.1]⟩
      · rw [if_neg q1]; by_cases q2 : x = k
        · rw [if_pos q2]; obtain ⟨m, hm, e⟩ := B9 k k8; have := or_bit m hm l l8; exact ⟨_, this.2, by rw [e, this.1]⟩
        · rw [if_neg q2]; exact B9 x hx
    · intro x y q; rcases (nbx x y).mp q with q | q | q
      · have := BN x y q; exact ⟨(nbx y x).mpr (Or.inl this.1), this.2⟩
      · exact ⟨(nbx y x).mpr (Or.inr (Or.inr ⟨q.2, q.1⟩)), by rw [q.1, q.2]; exact hkl, by omega⟩
      · exact ⟨(nbx y x).mpr (Or.inr (Or.inl ⟨q.2, q.1⟩)), by rw [q.1, q.2]; exact Ne.symm hkl, by omega⟩
    · simp only [nn, N]; rw [rw1 12 (by decide) (by decide) (by decide) (by decide) (by decide), rw1 13 (by decide) (by decide) (by decide) (by decide) (by decide), rw1 14 (by decide) (by decide) (by decide) (by decide) (by decide), rw1 15 (by decide) (by decide) (by decide) (by decide) (by decide), rw1 16 (by decide) (by decide) (by decide) (by decide) (by decide), rw1 19 (by decide) (by decide) (by decide) (by decide) (by decide), rw1 21 (by decide) (by decide) (by decide) (by decide) (by decide), rw1 23 (by decide) (by decide) (by decide) (by decide) (by decide), rw1 28 (by decide) (by decide) (by decide) (by decide) (by decide), rw1 29 (by decide) (by decide) (by decide) (by decide) (by decide)]; exact BA
    · simp only [N]; rw [rw1 20 (by decide) (by decide) (by decide) (by decide) (by decide), rw1 21 (by decide) (by decide) (by decide) (by decide) (by decide)]; exact BC
  · refine ⟨?_, ?_, ?_, ?_, ?_, ?_, ?_, ?_, ?_, ?_⟩
    · obtain ⟨m1, m2, m3, m4, m5, m6, m7, m8⟩ := M1
      refine ⟨by rw [rc 1 (by decide) (by decide) (by decide) (by decide) (by decide)]; exact m1, by simp [mu], by rw [rc 34 (by decide) (by decide) (by decide) (by decide) (by decide)]; exact m3, by rw [rc 60 (by decide) (by decide) (by decide) (by decide) (by decide), rw1 2 (by decide) (by decide) (by decide) (by decide) (by decide)]; exact m4, by rw [rc 27 (by decide) (by decide) (by decide) (by decide) (by decide), rw1 27 (by decide) (by decide) (by decide) (by decide) (by decide)]; exact m5, m6, by simp [lu], m8⟩
    · intro x hx; have g := MG x hx; have gk := (MG k hk).2.1; have gl := (MG l hl).2.1
      rw [c9, s9, rc 3 (by decide) (by decide) (by decide) (by decide) (by decide), rc 10 (by decide) (by decide) (by decide) (by decide) (by decide), rc 15 (by decide) (by decide) (by decide) (by decide) (by decide), rc 16 (by decide) (by decide) (by decide) (by decide) (by decide), rc 17 (by decide) (by decide) (by decide) (by decide) (by decide), rc 18 (by decide) (by decide) (by decide) (by decide) (by decide), rc 22 (by decide) (by decide) (by decide) (by decide) (by decide), rc 23 (by decide) (by decide) (by decide) (by decide) (by decide), rc 28 (by decide) (by decide) (by decide) (by decide) (by decide), rw1 3 (by decide) (by decide) (by decide) (by decide) (by decide), rw1 10 (by decide) (by decide) (by decide) (by decide) (by decide), rw1 15 (by decide) (by decide) (by decide) (by decide) (by decide), rw1 16 (by decide) (by decide) (by decide) (by decide) (by decide), rw1 17 (by decide) (by decide) (by decide) (by decide) (by decide), rw1 18 (by decide) (by decide) (by decide) (by decide) (by decide), rw1 22 (by decide) (by decide) (by decide) (by decide) (by decide), rw1 23 (by decide) (by decide) (by decide) (by decide) (by decide), rw1 28 (by decide) (by decide) (by decide) (by decide) (by decide), gk, gl, g.2.1]
      exact ⟨g.1, rfl, g.2.2⟩
    · unfold mE stg; rw [rc 50 (by decide) (by decide) (by decide) (by decide) (by decide), rc 51 (by decide) (by decide) (by decide) (by decide) (by decide), rw1 13 (by decide) (by decide) (by decide) (by decide) (by decide), rw1 14 (by decide) (by decide) (by decide) (by decide) (by decide), rw1 19 (by decide) (by decide) (by decide) (by decide) (by decide)]; exact ME
    · exact mC_rows (rw1 19 (by decide) (by decide) (by decide) (by decide) (by decide)) (rw1 20 (by decide) (by decide) (by decide) (by decide) (by decide)) (rw1 21 (by decide) (by decide) (by decide) (by decide) (by decide)) (rw1 23 (by decide) (by decide) (by decide) (by decide) (by decide)) (rw1 25 (by decide) (by decide) (by decide) (by decide) (by decide)) (rw1 26 (by decide) (by decide) (by decide) (by decide) (by decide)) (rc 52 (by decide) (by decide) (by decide) (by decide) (by decide)) (rc 53 (by decide) (by decide) (by decide) (by decide) (by decide)) (rc 54 (by decide) (by decide) (by decide) (by decide) (by decide)) (rc 55 (by decide) (by decide) (by decide) (by decide) (by decide)) (rc 56 (by decide) (by decide) (by decide) (by decide) (by decide)) (fun _ => rfl) MC
    · unfold mT N; rw [rc 57 (by decide) (by decide) (by decide) (by decide) (by decide), rc 58 (by decide) (by decide) (by decide) (by decide) (by decide), rw1 23 (by decide) (by decide) (by decide) (by decide) (by decide), rw1 25 (by decide) (by decide) (by decide) (by decide) (by decide), rw1 26 (by decide) (by decide) (by decide) (by decide) (by decide)]; exact MT
    · unfold mK; rw [rc 59 (by decide) (by decide) (by decide) (by decide) (by decide), rc 66 (by decide) (by decide) (by decide) (by decide) (by decide), rw1 28 (by decide) (by decide) (by decide) (by decide) (by decide), rw1 31 (by decide) (by decide) (by decide) (by decide) (by decide)]; exact MK
    · unfold mO; rw [rc 4 (by decide) (by decide) (by decide) (by decide) (by decide), rw1 4 (by decide) (by decide) (by decide) (by decide) (by decide)]; exact MO
    · intro p hp f g hf hg q1 q2
      rw [s6] at q1; rw [s7] at q2; rw [rw1 8 (by decide) (by decide) (by decide) (by decide) (by decide)]
      have c62 : (mu (mu (mu (nwQ C np (if nI k ≤ nI l then nI k else nI l) (if nI l ≤ nI k then nI k else nI l)) 5 0 (nI (np + 1))) 9 k (C 9 k ||| 1 <<< (nI l &&& 31))) 9 l (C 9 l ||| 1 <<< (nI k &&& 31))) 62 p = if p = np then (if nI k ≤ nI l then nI k else nI l) else C 62 p := by simp [mu, nwQ]
      have c63 : (mu (mu (mu (nwQ C np (if nI k ≤ nI l then nI k else nI l) (if nI l ≤ nI k then nI k else nI l)) 5 0 (nI (np + 1))) 9 k (C 9 k ||| 1 <<< (nI l &&& 31))) 9 l (C 9 l ||| 1 <<< (nI k &&& 31))) 63 p = if p = np then (if nI l ≤ nI k then nI k else nI l) else C 63 p := by simp [mu, nwQ]
      have c64 : ∀ i, (mu (mu (mu (nwQ C np (if nI k ≤ nI l then nI k else nI l) (if nI l ≤ nI k then nI k else nI l)) 5 0 (nI (np + 1))) 9 k (C 9 k ||| 1 <<< (nI l &&& 31))) 9 l (C 9 l ||| 1 <<< (nI k &&& 31))) 64 i = if 16 * np ≤ i ∧ i < 16 * np + 16 then 0 else C 64 i := fun i => by simp [mu, nwQ]
      rw [c62, c63]
      by_cases q : p = np
      · rw [if_pos q] at q1 q2; rw [if_pos q, if_pos q]
        have ef : f = k := nI_inj (by omega) (by omega) q1.symm
        have eg : g = l := nI_inj (by omega) (by omega) q2.symm
        rw [ef, eg]
        refine ⟨?_, ?_, fun v w hv hw => ?_⟩
        · by_cases z : k ≤ l
          · rw [if_pos z, if_pos (nI_le z (by omega))]
          · rw [if_neg z, if_neg (nI_ge (by omega) (by omega))]
        · by_cases z : k ≤ l
          · rw [if_pos z, if_neg (nI_ge (by omega) (by omega))]
          · rw [if_neg z, if_pos (nI_le (by omega) (by omega))]
        · rw [c64, if_pos (by omega), pre.2.2.2.2.1 _ (by omega)]; rfl
      · rw [if_neg q] at q1 q2; rw [if_neg q, if_neg q]
        obtain ⟨m1, m2, m3⟩ := MP p (by omega) f g hf hg q1 q2
        exact ⟨m1, m2, fun v w hv hw => by rw [c64, if_neg (by omega)]; exact m3 v w hv hw⟩
    · unfold mQ N; rw [rc 11 (by decide) (by decide) (by decide) (by decide) (by decide), rc 12 (by decide) (by decide) (by decide) (by decide) (by decide), rc 65 (by decide) (by decide) (by decide) (by decide) (by decide), rw1 10 (by decide) (by decide) (by decide) (by decide) (by decide), rw1 11 (by decide) (by decide) (by decide) (by decide) (by decide), rw1 12 (by decide) (by decide) (by decide) (by decide) (by decide), rw1 29 (by decide) (by decide) (by decide) (by decide) (by decide)]; exact MQ
    · intro k hk; rw [pre.1] at hk; exact absurd hk (Nat.not_lt_zero _)
  · refine ⟨pre.1, fun j q1 q2 => by rw [rw1 j (by omega) (by omega) (by omega) (by omega) (by omega)]; exact pre.2.1 j q1 q2, ?_, ?_, ?_, pre.2.2.2.2.2.1, pre.2.2.2.2.2.2⟩
    · intro x hx; rw [s9, if_neg (by omega), if_neg (by omega)]; exact pre.2.2.1 x hx
    · rw [rw1 4 (by decide) (by decide) (by decide) (by decide) (by decide)]; exact pre.2.2.2.1
    · intro i hi; rw [rw1 8 (by decide) (by decide) (by decide) (by decide) (by decide)]; exact pre.2.2.2.2.1 i (by omega)
end
