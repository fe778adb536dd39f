/-! SIMULATION S24. Laid by wip/whole/gen/p71.py -/
section
variable {S C : mS} {n np nl T : Nat} {sz : Nat → Nat → Nat} {A : Rl} {dd : Nat → Nat} {hh : Nat → Prop} {hx ex : Nat}
theorem haR_to {t : Int32} {ch tr : Nat → Int32} {a : Nat} : ∀ k, haR t ch tr a k = true → t ≠ 0 ∧ ∀ j, j < k → ¬ tr (8 + (ch (8 * a + j)).toNatClampNeg) ≤ 0
  | 0, h => ⟨of_decide_eq_true h, fun j hj => absurd hj (Nat.not_lt_zero _)⟩
  | k + 1, h => by
    rw [haR, Bool.and_eq_true] at h
    obtain ⟨h1, h2⟩ := haR_to k h.1
    refine ⟨h1, fun j hj => ?_⟩
    rcases Nat.lt_or_ge j k with q | q
    · exact h2 j q
    · rw [show j = k by omega]; exact of_decide_eq_true h.2
theorem cwf_of {a : Nat} (B : BI S n np nl T) (I : IX S n np A dd hh ex) (hex : ex = a ∨ n ≤ ex) (ha : a < n) (hch : ∀ c, vch S n a c → 0 < vtq S n c) : cwf S n a np (N S 21 a) := by
  obtain ⟨⟨b1, b2, b3, b4, b5, b6, b7⟩, B3, B2, BP, B4, B8, B26, B9, BN, BA, BC, BT⟩ := id B
  obtain ⟨D, E, NIh, TXh, KIh, PIh⟩ := id I
  have a8 : a < 8 := by omega
  have n21 := (BA a a8).2.2.2.2.2.1
  refine ⟨B3, b3, b4, fun p hp => ?_, n21.1, by have := n21.2; omega, fun k hk => ?_, fun i hi => (B4 i hi).1, fun i hi => (B8 i hi).1, B26⟩
  · obtain ⟨f, g, h1, h2, h3, h4, -⟩ := BP p hp
    unfold nn N
    rw [h3, h4, nI_clamp (by omega), nI_clamp (by omega)]
    exact ⟨⟨rfl, by omega⟩, rfl, by omega⟩
  · obtain ⟨c, hc, ec⟩ := BC a k ha hk
    have hvc : vch S n a c := ⟨ha, by omega, k, hk, ec⟩
    have q0 := hch c hvc
    have ne : c ≠ a := Ne.symm (D.1.2.2.2.2.2.2.2 _ _ (D.1.2.2.2.2.1 _ _ hvc).1).2.2.2.2
    have t1 := TXh.2 c q0
    have t2 := TXh.1 c (by rcases hex with q | q <;> omega) (by have := E.1.2.2.1 c; omega)
    have eN : N S 20 (8 * a + k) = c := N_nI ec (by omega)
    rw [eN, t1.1]
    refine ⟨⟨by rw [eN]; exact ec, by rw [eN]; omega⟩, t2.2.2.1, fun b hb q => se_lt D hc hb q⟩
theorem knw_of {a : Nat} (B : BI S n np nl T) (K : KI S n np A) (ha : a < n) : knw S n a := by
  refine ⟨fun b hb => ?_, nv_kv B.2.1 B.2.2.1 (K a ha).1⟩
  rcases (K a ha).1 b hb with q | ⟨q1, v, q2, q3⟩
  · exact Or.inl q
  · have q3' : S 31 (8 * a + b) = nI v := q3
    have := (B.2.1 b hb).2
    refine Or.inr ?_
    show S 31 (8 * a + b) = nI (S 31 (8 * a + b)).toNatClampNeg
    rw [q3', nI_clamp (by omega)]
theorem wkK_of {a : Nat} (B : BI S n np nl T) (I : IX S n np A dd hh ex) (hex : ex = a ∨ n ≤ ex) (ha : a < n) : wkK S n a np nl := by
  obtain ⟨⟨b1, b2, b3, b4, b5, b6, b7⟩, B3, B2, BP, B4, B8, B26, B9, BN, BA, BC, BT⟩ := id B
  obtain ⟨D, E, NIh, TXh, KIh, PIh⟩ := id I
  have a8 : a < 8 := by omega
  have n21 := (BA a a8).2.2.2.2.2.1
  refine ⟨ha, b2, n21.1, by have := n21.2; omega, fun k hk => ?_, (BA a a8).2.1, B3, rfl, wd_31 B a, b5, b6, fun hy => ?_, fun _ => knw_of B KIh ha⟩
  · obtain ⟨c, hc, ec⟩ := BC a k ha hk
    unfold nn N
    rw [ec, nI_clamp (by omega)]; exact ⟨rfl, by omega⟩
  · obtain ⟨y1, y2⟩ := haR_to _ hy
    have hch : ∀ c, vch S n a c → 0 < vtq S n c := fun c q => by
      obtain ⟨q1, q2, k, q3, q4⟩ := q
      have z := y2 k q3
      obtain ⟨c', hc', ec'⟩ := BC a k ha q3
      have e1 : c' = c := nI_inj (by omega) (by omega) (ec'.symm.trans q4)
      rw [q4, nI_clamp (by omega)] at z
      have nn23 := (BA c (by omega)).2.2.2.2.2.2.2.2.2.2
      unfold vtq
      rw [if_pos (by omega)]
      rcases Nat.eq_zero_or_pos (N S 23 (8 + c)) with y | y
      · exact absurd (by rw [nn23.1, y]; decide) z
      · exact y
    refine ⟨cwf_of B I hex ha hch, rfl, fun b hb => by have := B2 b hb; omega, fun q => ?_, fun b hb q => se_lt D ha hb q⟩
    have := D.2.2.2.1.2.1 a a ⟨ha, a8, q⟩
    exact (D.2.1.2.2.2.2.1 a a this).2.2.2 rfl
theorem hdK_of {a : Nat} (W : WI S C n np nl T sz A dd (fun x => x = a) a 8) (ha : a < n) : hdK S n a np nl := by
  obtain ⟨h19, -, -, h7, h53, -, h77, hhd, nth⟩ := hold_pre W ha
  obtain ⟨w1, B, M, IXh, LVs, CDh, Z5h⟩ := W
  have n8 := B.1.2.1
  have hI := (IX8 n8).mp IXh
  obtain ⟨D, E, NIh, TXh, KIh, PIh⟩ := id IXh
  have n21 := (B.2.2.2.2.2.2.2.2.2.1 a (by omega)).2.2.2.2.2.1
  refine ⟨ha, B.1.1, n8, n21.1, by omega, fun k hk => ?_, B.1.2.2.2.2.1, B.1.2.2.2.2.2.1, fun hlt => ?_⟩
  · obtain ⟨c, hc, ec⟩ := B.2.2.2.2.2.2.2.2.2.2.1 a k ha hk
    unfold nn N
    rw [ec, nI_clamp (by omega)]; exact ⟨rfl, by omega⟩
  · have hnx : nxR (S 9) (S 9 a) (S 18 a) n = -1 := by
      rcases nxR_ix (S 9) (S 9 a) (S 18 a) n with q | ⟨k, q1, q2, -⟩
      · exact q
      · rw [q2] at hlt; exact absurd hlt (nI_pos (by omega))
    generalize hy : seR (S 22) (S 20) (S 17 a) a (N S 21 a) &&& ((1 <<< (nI a &&& 31)) ^^^ -1) = y
    have eU : hdU S a n (N S 21 a) = mu (mu (mu S 19 a (-1)) 14 a 1) 22 a y := by
      show mu (mu (mu S 19 a (nxR (S 9) (S 9 a) (S 18 a) n)) 14 a 1) 22 a _ = _
      rw [hnx, hy]
    have hb : ∀ c, vnb S n a c → vms S n a c := fun c q => ⟨ha, q.2.1, nx_none n n8 hnx c (B.2.2.2.2.2.2.2.2.1 a c q).2.2 q.2.2⟩
    have hyc : ∀ c, c < 8 → (cI y (nI c) ↔ (van S n a c ∨ ∃ x, vch S n a x ∧ vse S n x c) ∧ c ≠ a) := fun c hc => by
      rw [← hy, cI_out (by omega) hc, se_bits hc]
      refine and_congr ⟨fun q => ?_, fun q => ?_⟩ Iff.rfl
      · rcases q with q | ⟨j, q1, q2⟩
        · exact Or.inl ⟨ha, hc, q⟩
        · obtain ⟨x, hx, ex⟩ := B.2.2.2.2.2.2.2.2.2.2.1 a j ha q1
          rw [ex, nI_clamp (by omega)] at q2
          exact Or.inr ⟨x, ⟨ha, by omega, j, q1, ex⟩, hx, hc, q2⟩
      · rcases q with q | ⟨x, ⟨z1, z2, j, z3, z4⟩, z5⟩
        · exact Or.inl q.2.2
        · exact Or.inr ⟨j, z3, by rw [z4, nI_clamp (by omega)]; exact z5.2.2⟩
    have hI2 := IS_thr hI n8 (fun x q => q) rfl h19 hb hyc
    have r := wkK_of (BI_thr (a := a) (y := y) B) ((IX8 n8).mpr hI2) (Or.inr n8) ha
    rw [eU]
    show wkH (mu (mu (mu S 19 a (-1)) 14 a 1) 22 a y) n a np (N S 21 a) (N S 3 a) (unN S (hdU S a n (N S 21 a) 22 a) 8) nl
    rw [eU]
    generalize hU : mu (mu (mu S 19 a (-1)) 14 a 1) 22 a y = U at *
    have row : ∀ j, j ≠ 19 → j ≠ 14 → j ≠ 22 → U j = S j := fun j q1 q2 q3 => by rw [← hU, mu_row q3, mu_row q2, mu_row q1]
    have e1 : N U 21 a = N S 21 a := by simp only [N]; rw [row 21 (by decide) (by decide) (by decide)]
    have e2 : N U 3 a = N S 3 a := by simp only [N]; rw [row 3 (by decide) (by decide) (by decide)]
    have e3 : unN U (U 22 a) 8 = unN S (U 22 a) 8 := by show unR (U 3) _ 8 = unR (S 3) _ 8; rw [row 3 (by decide) (by decide) (by decide)]
    unfold wkK at r
    rw [e1, e2, e3] at r
    exact r
theorem hdK_19 {a : Nat} {y : Int32} (h : hdK (mu S 19 a y) n a np nl) : hdK S n a np nl := by
  have e : ∀ j, j ≠ 19 → (mu S 19 a y) j = S j := fun j q => mu_row q
  have eU : ∀ cc, hdU (mu S 19 a y) a n cc = hdU S a n cc := fun cc => by
    show mu (mu (mu (mu S 19 a y) 19 a (nxR ((mu S 19 a y) 9) ((mu S 19 a y) 9 a) ((mu S 19 a y) 18 a) n)) 14 a 1) 22 a (seR ((mu S 19 a y) 22) ((mu S 19 a y) 20) ((mu S 19 a y) 17 a) a cc &&& _) = _
    rw [mu_mu, e 9 (by decide), e 18 (by decide), e 22 (by decide), e 20 (by decide), e 17 (by decide)]
  obtain ⟨h1, h2, h3, h4, h5, h6, h7, h8, h9⟩ := h
  have e21 : N (mu S 19 a y) 21 a = N S 21 a := by simp only [N, e 21 (by decide)]
  have e3 : N (mu S 19 a y) 3 a = N S 3 a := by simp only [N, e 3 (by decide)]
  have e20 : ∀ i, nn (mu S 19 a y) 20 i 7 = nn S 20 i 7 := fun i => by unfold nn N; rw [e 20 (by decide)]
  rw [e21] at h4 h5 h6 h9
  rw [e3, eU] at h9
  rw [e 1 (by decide)] at h2
  rw [e 21 (by decide)] at h4
  rw [e 34 (by decide)] at h7
  rw [e 9 (by decide), e 18 (by decide)] at h9
  refine ⟨h1, h2, h3, h4, h5, fun k hk => by rw [← e20]; exact h6 k hk, h7, h8, fun q => ?_⟩
  have r := h9 q
  have ew : hdw (mu S 19 a y) a n = hdw S a n := by
    show unR ((mu S 19 a y) 3) (hdU (mu S 19 a y) a n (N (mu S 19 a y) 21 a) 22 a) 8 = unR (S 3) (hdU S a n (N S 21 a) 22 a) 8
    rw [e21, eU, e 3 (by decide)]
  rw [ew] at r
  exact r
theorem dvH_of {a b : Nat} (W : WI S C n np nl T sz A dd noH 8 8) (ha : a < n) (hb : b < n) (h36 : S 36 20 = nI b) (h37 : S 37 20 = nI a) (hLV : LV S n (S 35 20) (nI b) (nI a) (S 38 20) (S 39 20) (S 40 20) (fun i => S 41 (5120 + i))) : dvH S n np a b nl := by
  obtain ⟨w1, B, M, IXh, LVs, CDh, Z5h⟩ := id W
  have n8 := B.1.2.1
  have hI := (IX8 n8).mp IXh
  have D := hI.1
  have E := hI.2.1
  have n7 := (B.2.2.2.2.2.2.2.2.2.1 a (by omega)).2.2.2.2.2.1
  have BT := B.2.2.2.2.2.2.2.2.2.2.2
  refine ⟨h37, h36, by omega, by omega, B.1.2.2.2.2.1, B.1.2.2.2.2.2.1, fun q1 q2 => ?_, fun q1 q2 => ?_, fun q1 q2 => ?_, fun q1 q2 q3 q4 => ?_⟩
  · have hna : ¬ vhd S n a := fun z => z.2 q2
    rcases LV_k n8 ha hb hLV with ⟨k1, k2⟩ | ⟨k1, -⟩ | ⟨k1, -⟩ | ⟨k1, -⟩
    · obtain ⟨hwt, hm⟩ := k2 hna
      obtain ⟨A', dd', W1⟩ := tok_W W ha hna hwt hm
      exact hdK_of W1 ha
    · rw [q1] at k1; exact absurd k1 (by decide)
    · rw [q1] at k1; exact absurd k1 (by decide)
    · rw [q1] at k1; exact absurd k1 (by decide)
  · rcases LV_k n8 ha hb hLV with ⟨k1, -⟩ | ⟨k1, k2, k3, k4⟩ | ⟨k1, -⟩ | ⟨k1, -⟩
    · rw [q1] at k1; exact absurd k1 (by decide)
    · refine ⟨n7.1, n7.2, ?_⟩
      have W1 := back_W W ⟨ha, by omega, q2⟩ k2 k4
      have r := hdK_of W1 ha
      have e0 : bk1 S a b = mu (bk0 S a) 19 a (-1) := by
        show mu (mu (mu (mu S 18 a (S 18 b)) 20 (8 * a + N S 21 a) (nI b)) 21 a (nI (N S 21 a + 1))) 19 a (-1) = mu (mu (mu (mu S 18 a (S 38 20)) 20 (8 * a + N S 21 a) (S 36 20)) 21 a (nI (N S 21 a + 1))) 19 a (-1)
        rw [k4, h36]
      rw [e0] at r
      exact hdK_19 r
    · rw [q1] at k1; exact absurd k1 (by decide)
    · rw [q1] at k1; exact absurd k1 (by decide)
  · rcases LV_k n8 ha hb hLV with ⟨k1, -⟩ | ⟨k1, -⟩ | ⟨k1, k2, k3, k4, k5, k6, k8⟩ | ⟨k1, -⟩
    · rw [q1] at k1; exact absurd k1 (by decide)
    · rw [q1] at k1; exact absurd k1 (by decide)
    · have n39 : N S 39 20 = wd S b := N_nI k5 (by omega)
      refine ⟨by rw [n39]; exact k5, by rw [n39]; exact k6, ?_⟩
      obtain ⟨k, hk, ek⟩ := kid_ix B D k3 ha
      obtain ⟨r, r1, r2, r3, r4⟩ := k8
      have n23 := (B.2.2.2.2.2.2.2.2.2.1 b (by omega)).2.2.2.2.2.2.2.2.2.2
      have nle : ¬ r ≤ vtq S n b := fun z => q2 (by
        rw [r3, n23.1]
        have e8 : vtq S n b = N S 23 (8 + b) := by unfold vtq; rw [if_pos hb]
        rw [e8] at z
        exact (nI_leI r2 (by have := n23.2; omega)).mpr z)
      obtain ⟨s1, s2, s3⟩ := r4.resolve_left nle
      have hu : vtq S n b < vtr S n b := by omega
      obtain ⟨W1, -, -⟩ := dlv_W (w := S 39 20) (e := fun i => un (S 41 (5120 + i))) W k3 hk ek hu rfl (by rw [r3, s1]) k4 k5 s3 rfl (fun i hi => rfl)
      exact wkK_of W1.2.1 W1.2.2.2.1 (Or.inl rfl) ha
    · rw [q1] at k1; exact absurd k1 (by decide)
  · rcases LV_k n8 ha hb hLV with ⟨k1, -⟩ | ⟨k1, -⟩ | ⟨k1, -⟩ | ⟨k1, k2, k3, k5⟩
    · exact absurd k1 q1
    · exact absurd k1 q2
    · exact absurd k1 q3
    · obtain ⟨r, r1, r2, r3, r4⟩ := k5
      have n28 := (B.2.2.2.2.2.2.2.2.2.1 a (by omega)).2.2.2.2.2.2.2.1
      have nle : ¬ r ≤ vst S n a := fun z => q4 (by
        rw [r3, n28.1]
        have e8 : vst S n a = N S 28 a := by unfold vst; rw [if_pos ha]
        rw [e8] at z
        exact (nI_leI r2 (by have := n28.2; omega)).mpr z)
      obtain ⟨s1, s2, s3⟩ := r4.resolve_left nle
      obtain ⟨tr0, tha, -⟩ := told_fin B hI k2 s2 k3 s3
      have cw := cwf_of B IXh (Or.inr n8) ha (fun c q => E.1.2.1 a c tr0 q)
      have row : ∀ j, j ≠ 31 → (ch0 S a) j = S j := fun j q => by funext i; simp [ch0, cpB, q]
      have e31 : ∀ y, y < 8 → (ch0 S a) 31 (8 * a + y) = S 41 (5120 + y) := fun y hy => by simp [ch0, cpB, hy]
      have e21 : N (ch0 S a) 21 a = N S 21 a := by simp only [N]; rw [row 21 (by decide)]
      refine ⟨by omega, ?_, ?_, ⟨fun y hy => ?_, fun y hy => ?_⟩, by rw [row 34 (by decide)]; exact B.1.2.2.2.2.1, B.1.2.2.2.2.2.1⟩
      · rw [e21]
        exact cwf_rows (row 3 (by decide)) (row 4 (by decide)) (row 5 (by decide)) (row 6 (by decide)) (row 7 (by decide)) (row 8 (by decide)) (row 20 (by decide)) (row 21 (by decide)) (row 24 (by decide)) (row 26 (by decide)) cw
      · have := B.2.2.1 a ha
        show 1 ≤ ((ch0 S a) 3 a).toNatClampNeg
        rw [row 3 (by decide)]; have : 2 ≤ (S 3 a).toNatClampNeg := this; omega
      · show (ch0 S a) 31 (8 * a + y) = -1 ∨ (ch0 S a) 31 (8 * a + y) = nI ((ch0 S a) 31 (8 * a + y)).toNatClampNeg
        rw [e31 y hy]
        rcases k3 y hy with z | ⟨z1, v, z2, z3⟩
        · exact Or.inl z
        · have z3' : S 41 (5120 + y) = nI v := z3
          have := (B.2.1 y hy).2
          rw [z3', nI_clamp (by omega)]; exact Or.inr rfl
      · show ((ch0 S a) 31 (8 * a + y)).toNatClampNeg < 4 ∧ (y < n → ((ch0 S a) 31 (8 * a + y)).toNatClampNeg < ((ch0 S a) 3 y).toNatClampNeg)
        rw [e31 y hy, row 3 (by decide)]
        have t4 := (B.2.1 y hy).2
        rcases k3 y hy with z | ⟨z1, v, z2, z3⟩
        · have z' : S 41 (5120 + y) = -1 := z
          rw [z']
          exact ⟨by decide, fun q => by have := B.2.2.1 y q; have : 2 ≤ (S 3 y).toNatClampNeg := this; show 0 < _; omega⟩
        · have z3' : S 41 (5120 + y) = nI v := z3
          rw [z3', nI_clamp (by omega)]
          exact ⟨by omega, fun _ => z2⟩
theorem dv_of {q : Nat} (W : WI S C n np nl T sz A dd noH 8 8) (hq : q < nl) : dvH (dl0 S q nl) n np (N S 37 q) (N S 36 q) (nl - 1) := by
  obtain ⟨w1, B, M, IXh, LVs, CDh, Z5h⟩ := id W
  have n8 := B.1.2.1
  have h20 := B.1.2.2.2.2.2.1
  obtain ⟨f, t, hf1, ht1, ef, et, -⟩ := LVs q hq
  obtain ⟨lo, e34, sl, s20, c41, c20⟩ := dl0_r (S := S) hq h20
  obtain ⟨W2, LV2⟩ := take_W W hq
  rw [ef, et] at LV2
  have en : N S 37 q = t := N_nI et (by omega)
  have en2 : N S 36 q = f := N_nI ef (by omega)
  rw [en, en2]
  refine dvH_of W2 ht1 hf1 (by rw [s20 36 (by decide) (by decide)]; exact ef) (by rw [s20 37 (by decide) (by decide)]; exact et) ?_
  rw [s20 35 (by decide) (by decide), s20 38 (by decide) (by decide), s20 39 (by decide) (by decide), s20 40 (by decide) (by decide)]
  exact LV_cong (fun i hi => (c20 i hi).symm) LV2
theorem sz_of (B : BI S n np nl T) : szOK S n := fun k hk => by
  have h3 := B.2.1 k (by have := B.1.2.1; omega)
  exact ⟨N S 3 k, B.2.2.1 k hk, h3.2, h3.1⟩
theorem ag_of (W : WI S C n np nl T sz A dd noH 8 8) : ∀ a, a < n → S 21 a = nI (N S 21 a) ∧ N S 21 a ≤ 8 ∧ (¬ S 23 a ≤ 0 → ∃ w, S 25 a = nI w ∧ w ≤ 256) := fun a ha => by
  obtain ⟨w1, B, M, IXh, LVs, CDh, Z5h⟩ := W
  have n8 := B.1.2.1
  have hI := (IX8 n8).mp IXh
  have n21 := (B.2.2.2.2.2.2.2.2.2.1 a (by omega)).2.2.2.2.2.1
  have n23 := (B.2.2.2.2.2.2.2.2.2.1 a (by omega)).2.2.2.2.2.2.2.2.2.1
  refine ⟨n21.1, by have := n21.2; omega, fun q => ?_⟩
  have v : 0 < vtr S n a := by
    unfold vtr; rw [if_pos ha]
    rcases Nat.eq_zero_or_pos (N S 23 a) with z | z
    · exact absurd (by rw [n23.1, z]; decide) q
    · exact z
  have t := hI.2.2.2.1.1 a v
  exact ⟨_, t.2.1, t.2.2.1⟩
theorem tl_of (W : WI S C n np nl T sz A dd noH 8 8) (x : Int32) : ∀ q, q < nl → 2 ≤ S 35 q → x - 10 < S 39 q → x < 266 := fun q hq h2 hx => by
  have : ∃ w, w ≤ 256 ∧ S 39 q = nI w := by
    obtain ⟨f, t, -, -, -, -, hv⟩ := W.2.2.2.2.1 q hq
    rcases hv with ⟨k1, -⟩ | ⟨k1, -⟩ | ⟨-, -, -, -, k2, k3, -⟩ | ⟨k1, -, -, k4, -⟩
    · rw [k1] at h2; exact absurd h2 (by decide)
    · rw [k1] at h2; exact absurd h2 (by decide)
    · exact ⟨_, k3, k2⟩
    · refine ⟨_, ?_, k4⟩
      have : ∀ k e, ccR e k ≤ k := fun k e => by
        induction k with
        | zero => exact Nat.le_refl _
        | succ k ih => rw [ccR]; split <;> omega
      exact Nat.le_trans (this 8 _) (by decide)
  obtain ⟨w, hw, e⟩ := this
  rw [e] at hx
  refine Decidable.byContradiction (fun z => ?_)
  have z' : 266 ≤ x := Int32.not_lt.mp z
  obtain ⟨j, hj, rfl⟩ := nI_of (x := x) (fun q => absurd (Int32.lt_of_le_of_lt z' q) (by decide))
  have h266 : 266 ≤ j := (nI_leI (a := 266) (by decide) hj).mp z'
  obtain ⟨i, rfl⟩ : ∃ i, j = i + 10 := ⟨j - 10, by omega⟩
  have e1 : nI (i + 10) - 10 = nI i := by rw [← nI_add]; exact Int32.add_sub_cancel _ _
  rw [e1] at hx
  exact nI_nlt (show w ≤ i by omega) (by omega) hx
theorem cg_of {a b v w c : Int32} (W : WI S C n np nl T sz A dd noH 8 8) (hT : T + 1 < 2 ^ 30) (h0 : thChange S n np a b v w c = 0) : ∀ k l p v' w' q, cgI S n np a b v w k l p v' w' q → wkK (cg0 S p k v' w' c q) n (if cI (S 17 k) b then k else l) np nl := fun k l p v' w' q hc => by
  obtain ⟨hk, hl, rfl, rfl, hpf, hp, hv, hw, rfl, rfl, hq, hq8⟩ := hc
  have q0 := thF_0.mp h0
  have hPC := Decidable.not_not.mp q0.1
  have hst : stF S n = 1 ∨ stF S n = 2 := by
    by_cases z : stF S n = 1
    · exact Or.inl z
    · exact Or.inr (Decidable.byContradiction (fun y => q0.2 ⟨z, y⟩))
  obtain ⟨W1, h1, -⟩ := chg_W W hT hst hk hl hp hpf hv hw hPC.2.2.2 hq hq8
  exact wkK_of W1.2.1 W1.2.2.2.1 (Or.inl rfl) h1
theorem st_of (h : INV S C n np nl T sz) : ∀ a, a < n → MM (st0 S) n a = itR (S 9) n (1 <<< (nI a &&& 31)) n ∧ (1 <<< (nI a &&& 31) : Int32) ≠ 0 ∧ itR (S 9) n (1 <<< (nI a &&& 31)) (n + 1) = itR (S 9) n (1 <<< (nI a &&& 31)) n := fun a ha => by
  have B := h.1
  have n8 := B.1.2.1
  have r0 : st0 S 9 = S 9 := by rw [st0, mu_row (by decide), mu_row (by decide)]
  refine ⟨by show itR (st0 S 9) n _ n = _; rw [r0], ?_, it_fixp n8 (fun b hb => B.2.2.2.2.2.2.2.1 b (by omega)) (fun k b hk hb q => (B.2.2.2.2.2.2.2.2.1 k b ⟨hk, hb, q⟩).2.2) (bit_m a (by omega)) (fun b hb q => by rw [(cI_bit a (by omega) b hb).mp q]; exact ha) ⟨a, by omega, (cI_bit a (by omega) a (by omega)).mpr rfl⟩⟩
  have : ∀ a, a < 8 → (1 <<< (nI a &&& 31) : Int32) ≠ 0 := by decide
  exact this a (by omega)
end
