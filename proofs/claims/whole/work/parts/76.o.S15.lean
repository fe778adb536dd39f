/-! SIMULATION S15. Laid by wip/whole/gen/p71.py -/
section
variable {S C : mS} {n np nl T : Nat} {sz : Nat → Nat → Nat} {A : Rl} {dd : Nat → Nat}
abbrev noH : Nat → Prop := fun _ => False
theorem csm_ge {hh : Nat → Prop} {a : Nat} (B : BI S n np nl T) (D : vDI S n A hh) (NIh : NI S n dd) (ha : a < n) : N S 21 a ≤ csm S dd a := by
  have n8 := B.1.2.1
  have : ∀ k, k ≤ N S 21 a → k ≤ sumB (fun k => pm S (N S 20 (8 * a + k)) - dd (N S 20 (8 * a + k))) k := by
    intro k
    induction k with
    | zero => intro _; exact Nat.zero_le _
    | succ k ih =>
      intro hk
      have := ih (by omega)
      obtain ⟨c, hc, ec⟩ := B.2.2.2.2.2.2.2.2.2.2.1 a k ha (by omega)
      have nc : N S 20 (8 * a + k) = c := N_nI ec (by omega)
      have hch : vch S n a c := ⟨ha, by omega, k, by omega, ec⟩
      have z := NIh.1 c (D.1.2.1 _ (D.1.2.2.2.2.1 _ _ hch).2.1)
      rw [sumB, nc]
      omega
  exact this _ (Nat.le_refl _)
theorem hold_pre {a : Nat} (W : WI S C n np nl T sz A dd (fun x => x = a) a 8) (ha : a < n) : S 19 a = -1 ∧ C 52 a = nI (N S 21 a) ∧ sz 4 a = N S 21 a ∧ N S 21 a ≤ 7 ∧ (∀ k, k < N S 21 a → ∃ b, b < sz 1 0 ∧ b ≠ a ∧ C 53 (8 * a + k) = nI b) ∧ nxC C a n = nxR (S 9) (S 9 a) (S 18 a) n ∧ (nxC C a n ≠ -1 → N S 21 a < 7) ∧ vhd S n a ∧ ¬ vth S n a := by
  obtain ⟨w1, B, M, IXh, LVs, CDh, Z5h⟩ := W
  have n8 := B.1.2.1
  obtain ⟨D, E, NIh, -⟩ := id IXh
  have hh := D.2.2.1.2.2.2.2.1 a rfl
  have h19 : S 19 a = -1 := by
    rcases (B.2.2.2.2.2.2.2.2.2.1 a (by omega)).2.2.2.2.1 with q | ⟨b, q1, q2⟩
    · exact q
    · exact absurd rfl (D.1.2.2.2.2.2.1 a b ⟨ha, by omega, q2⟩).2.2.2.2.2
  have cn : chn S a = N S 21 a := by show N S 21 a + (if S 19 a = -1 then 0 else 1) = _; rw [if_pos h19]; rfl
  have mc := M.2.2.2.1 a ha
  have h7 := (B.2.2.2.2.2.2.2.2.2.1 a (by omega)).2.2.2.2.2.1.2
  have g := M.2.1 a ha
  have enx : nxC C a n = nxR (S 9) (S 9 a) (S 18 a) n := by
    refine mj_nx n8 (fun b hb => ⟨(M.2.1 b hb).2.1, B.2.2.2.2.2.2.2.1 b (by omega)⟩) (fun b hb => ?_)
    rw [g.2.1, g.2.2.2.2.2.2.1, cI_and (by omega), cI_neg (by omega)]
  refine ⟨h19, by rw [mc.1, cn], by rw [mc.2.1, cn], h7, fun k hk => ?_, enx, fun q => ?_, hh.1, hh.2⟩
  · obtain ⟨c, hc, ec⟩ := B.2.2.2.2.2.2.2.2.2.2.1 a k ha hk
    have hch : vch S n a c := ⟨ha, by omega, k, hk, ec⟩
    have gk := (mc.2.2 k (by rw [cn]; exact hk)).1
    refine ⟨c, by rw [M.1.2.2.2.2.2.1]; exact hc, Ne.symm (D.1.2.2.2.2.2.2.2 _ _ (D.1.2.2.2.2.1 _ _ hch).1).2.2.2.2, ?_⟩
    rw [gk]; show (if k < N S 21 a then _ else _) = _; rw [if_pos hk, ec]
  · rw [enx] at q
    rcases nxR_ix (S 9) (S 9 a) (S 18 a) n with z | ⟨b, z1, z2, z3, z4⟩
    · exact absurd z q
    · have c1 := csm_ge B D NIh ha
      have c2 := NIh.1 a hh.1
      have : pm S a < 8 := by
        have : pcN (S 18 a) 8 < pcN (S 18 a ||| (1 <<< (nI b &&& 31))) 8 := by rw [pcN_in (by omega) z4 8 (Nat.le_refl _), if_pos (by omega)]; omega
        have := pcN_le (S 18 a ||| (1 <<< (nI b &&& 31))) 8
        show pcN (S 18 a) 8 < 8
        omega
      omega
theorem hold_wait_W {a b : Nat} (W : WI S C n np nl T sz A dd (fun x => x = a) a 8) (ha : a < n) (hb : b < n) (hnx : nxR (S 9) (S 9 a) (S 18 a) n = nI b) :
    WI (hdC S a n np) (hwC C a (N S 21 a) b nl) n np (nlS nl) T (lu (lu sz 4 a (N S 21 a + 1)) 8 0 (nlS nl)) A dd noH 8 8 := by
  obtain ⟨h19, -, -, h7, -, -, h77, hhd, nth⟩ := hold_pre W ha
  obtain ⟨w1, B, M, IXh, LVs, CDh, Z5h⟩ := W
  have n8 := B.1.2.1
  have hI := (IX8 n8).mp IXh
  obtain ⟨D, E, NIh, -⟩ := id IXh
  have z : vnb S n a b ∧ ¬ vms S n a b := by
    rcases nxR_ix (S 9) (S 9 a) (S 18 a) n with z | ⟨k, z1, z2, z3, z4⟩
    · rw [hnx] at z; exact absurd z (nI_m1' (by omega))
    · have e : b = k := nI_inj (by omega) (by omega) (hnx.symm.trans z2)
      rw [e]
      exact ⟨⟨ha, by omega, z3⟩, fun q => z4 q.2.2⟩
  have nhb : ¬ vhd S n b := fun q => z.2 (D.2.2.2.2.1 a b rfl q (D.2.2.1.2.2.2.2.2.2.2.2.1 _ _ (D.2.2.1.2.2.2.1 a b z.1).2.1))
  have q0 : S 23 (8 + b) = 0 := by
    have t0 : vtr S n b = 0 := Nat.eq_zero_of_not_pos (fun q => nhb (D.1.2.1 _ (E.1.1 _ q)))
    have := E.1.2.2.1 b
    have nn := (B.2.2.2.2.2.2.2.2.2.1 b (by omega)).2.2.2.2.2.2.2.2.2.2
    have q1 : N S 23 (8 + b) = 0 := by
      have e : vtq S n b = N S 23 (8 + b) := by unfold vtq; rw [if_pos hb]
      omega
    rw [nn.1, q1]; rfl
  have ehd : hdC S a n np = pstS (mu S 19 a (nI b)) 0 (nI a) (nI b) (S 18 a) := by
    show hdS S a n np _ _ _ = _
    unfold hdS
    rw [hnx, if_neg (nI_pos (by omega))]
  have h13 : S 13 a ≠ 0 := hhd.2
  have h14 : S 14 a = 0 := Decidable.byContradiction (fun q => nth ⟨ha, q⟩)
  have h7x : ∀ x, x < n → N S 21 x ≤ 7 := fun x hx => (B.2.2.2.2.2.2.2.2.2.1 x (by omega)).2.2.2.2.2.1.2
  have row : ∀ j, j ≠ 19 → (mu S 19 a (nI b)) j = S j := fun j q => mu_row q
  have hI2 := IS_wait hI n8 (fun x q => q) rfl z.1 z.2
  have nwt : ∀ y, ¬ vwt S n a y := fun y q => (D.1.2.2.2.2.2.1 a y q).2.2.2.2.2 rfl
  have W2 : WI (mu S 19 a (nI b)) (mu (mu (adC C a (N S 21 a) b) 51 a (nI b)) 50 a 1) n np nl T (lu sz 4 a (N S 21 a + 1)) A dd noH 8 8 := by
    refine ⟨by rw [row 2 (by decide)]; exact w1, BI_wait hb B, SIM_wait n8 ha (by omega) h13 h14 h19 q0 h7x M, (IX8 n8).mpr hI2, fun k hk => ?_, CD_r CDh (row 20 (by decide)) (row 21 (by decide)), Z5_r Z5h (row 10 (by decide)) (fun _ => rfl)⟩
    have := LVs k hk
    unfold LVk at *
    rw [row 35 (by decide), row 36 (by decide), row 37 (by decide), row 38 (by decide), row 39 (by decide), row 40 (by decide), row 41 (by decide)]
    exact LV_wait nwt this
  rw [ehd]
  have c18 := (M.2.1 a ha).2.2.2.2.2.2.1
  unfold hwC
  rw [c18]
  have P := PS_pst (S := mu S 19 a (nI b)) (w := 0) (a := nI a) (b := nI b) (x := S 18 a) W2.2.1.1.2.2.2.2.1 W2.2.1.1.2.2.2.2.2.1
  refine post_W W2 P (fun q => ⟨a, b, ha, hb, rfl, rfl, Or.inl ⟨rfl, rfl, fun _ => ⟨⟨ha, by omega, by simp [mu]⟩, by rw [row 18 (by decide)]⟩⟩⟩) (fun _ => rfl) (fun _ e => absurd e (by decide)) (fun _ e => absurd e (by decide))
theorem hold_thr_W {a : Nat} (W : WI S C n np nl T sz A dd (fun x => x = a) a 8) (ha : a < n) (hnx : nxR (S 9) (S 9 a) (S 18 a) n = -1) :
    ∃ nl', WI (hdV S a n (N S 21 a)) (htC C a (N S 21 a) nl) n np nl' T (if C 16 a = -1 then sz else lu sz 8 0 (nlS nl)) A dd noH 8 8 ∧ nl' = (if C 16 a = -1 then nl else nlS nl) ∧ vth (hdV S a n (N S 21 a)) n a ∧ vtr (hdV S a n (N S 21 a)) n a = 0 ∧ vR (hdV S a n (N S 21 a)) a = 1 ∧ (∀ x, A x a → vtr (hdV S a n (N S 21 a)) n x = 0) ∧
      hdC S a n np = wkC (hdV S a n (N S 21 a)) a 1 np ∧ haCR (C 55) a (N S 21 a) = haN (hdV S a n (N S 21 a)) a (N S 21 a) ∧ N (hdV S a n (N S 21 a)) 21 a = N S 21 a := by
  obtain ⟨h19, -, -, h7, h53, -, h77, hhd, nth⟩ := hold_pre W ha
  obtain ⟨w1, B, M, IXh, LVs, CDh, Z5h⟩ := W
  have n8 := B.1.2.1
  have hI := (IX8 n8).mp IXh
  obtain ⟨D, E, NIh, TXh, KIh, PIh⟩ := id IXh
  have nwt : ∀ y, ¬ vwt S n a y := fun y q => (D.1.2.2.2.2.2.1 a y q).2.2.2.2.2 rfl
  have cn : chn S a = N S 21 a := by show N S 21 a + (if S 19 a = -1 then 0 else 1) = _; rw [if_pos h19]; rfl
  have mc := M.2.2.2.1 a ha
  have kids : ∀ k, k < N S 21 a → ∃ c, c < n ∧ S 20 (8 * a + k) = nI c ∧ C 53 (8 * a + k) = nI c := fun k hk => by
    obtain ⟨c, hc, ec⟩ := B.2.2.2.2.2.2.2.2.2.2.1 a k ha hk
    have gk := (mc.2.2 k (by rw [cn]; exact hk)).1
    exact ⟨c, hc, ec, by rw [gk]; show (if k < N S 21 a then _ else _) = _; rw [if_pos hk, ec]⟩
  generalize hy : seR (S 22) (S 20) (S 17 a) a (N S 21 a) &&& ((1 <<< (nI a &&& 31)) ^^^ -1) = y
  have eU : hdU S a n (N S 21 a) = mu (mu (mu S 19 a (-1)) 14 a 1) 22 a y := by
    show mu (mu (mu S 19 a (nxR (S 9) (S 9 a) (S 18 a) n)) 14 a 1) 22 a _ = _
    rw [hnx, hy]
  have hb : ∀ c, vnb S n a c → vms S n a c := fun c q => ⟨ha, q.2.1, nx_none n n8 hnx c (B.2.2.2.2.2.2.2.2.1 a c q).2.2 q.2.2⟩
  have hyc : ∀ c, c < 8 → (cI y (nI c) ↔ (van S n a c ∨ ∃ x, vch S n a x ∧ vse S n x c) ∧ c ≠ a) := fun c hc => by
    rw [← hy, cI_out (by omega) hc, se_bits hc]
    refine and_congr ⟨fun q => ?_, fun q => ?_⟩ Iff.rfl
    · rcases q with q | ⟨j, q1, q2⟩
      · exact Or.inl ⟨ha, hc, q⟩
      · obtain ⟨x, hx, ex, -⟩ := kids j q1
        rw [ex, nI_clamp (by omega)] at q2
        exact Or.inr ⟨x, ⟨ha, by omega, j, q1, ex⟩, hx, hc, q2⟩
    · rcases q with q | ⟨x, ⟨z1, z2, j, z3, z4⟩, z5⟩
      · exact Or.inl q.2.2
      · exact Or.inr ⟨j, z3, by rw [z4, nI_clamp (by omega)]; exact z5.2.2⟩
  have hI2 := IS_thr hI n8 (fun x q => q) rfl h19 hb hyc
  have h13 : S 13 a ≠ 0 := hhd.2
  have eC : seR (C 22) (C 53) (C 17 a) a (N S 21 a) &&& ((1 <<< (nI a &&& 31)) ^^^ -1) = y := by
    rw [← hy, (M.2.1 a ha).2.2.2.2.2.1]
    refine congrArg (· &&& _) (se_c _ (fun j hj => ?_))
    obtain ⟨c, hc, e1, e2⟩ := kids j hj
    rw [e1, e2, nI_clamp (by omega), (M.2.1 c hc).2.2.2.2.2.2.2.1]
  have row : ∀ j, j ≠ 19 → j ≠ 14 → j ≠ 22 → (mu (mu (mu S 19 a (-1)) 14 a 1) 22 a y) j = S j := fun j q1 q2 q3 => by rw [mu_row q3, mu_row q2, mu_row q1]
  have W2 : WI (mu (mu (mu S 19 a (-1)) 14 a 1) 22 a y) (thC C a (N S 21 a)) n np nl T sz A dd noH 8 8 := by
    refine ⟨by rw [row 2 (by decide) (by decide) (by decide)]; exact w1, BI_thr B, ?_, (IX8 n8).mpr hI2, fun k hk => ?_, CD_r CDh (row 20 (by decide) (by decide) (by decide)) (row 21 (by decide) (by decide) (by decide)), Z5_r Z5h (row 10 (by decide) (by decide) (by decide)) (fun _ => rfl)⟩
    · have := SIM_thr (y := y) n8 ha h13 h19 M
      unfold thC; rw [eC]; exact this
    · have := LVs k hk
      unfold LVk at *
      rw [row 35 (by decide) (by decide) (by decide), row 36 (by decide) (by decide) (by decide), row 37 (by decide) (by decide) (by decide), row 38 (by decide) (by decide) (by decide), row 39 (by decide) (by decide) (by decide), row 40 (by decide) (by decide) (by decide), row 41 (by decide) (by decide) (by decide)]
      exact LV_thr nth nwt this
  have c16 := (M.2.1 a ha).2.2.2.2.1
  have c18 := (M.2.1 a ha).2.2.2.2.2.2.1
  have t14 : (mu (mu (mu S 19 a (-1)) 14 a 1) 22 a y) 14 a = 1 := by simp [mu]
  -- the state behind the letter
  have key : ∃ V, hdV S a n (N S 21 a) = V ∧ WI V (htC C a (N S 21 a) nl) n np (if C 16 a = -1 then nl else nlS nl) T (if C 16 a = -1 then sz else lu sz 8 0 (nlS nl)) A dd noH 8 8 ∧ ∀ j, 0 < j → j < 34 → V j = (mu (mu (mu S 19 a (-1)) 14 a 1) 22 a y) j := by
    refine ⟨_, rfl, ?_⟩
    show WI (if S 16 a < 0 then hdU S a n (N S 21 a) else pstS (hdU S a n (N S 21 a)) 1 (nI a) (S 16 a) (S 18 a)) _ _ _ _ _ _ _ _ _ _ _ ∧ ∀ j, _ → _ → (if S 16 a < 0 then hdU S a n (N S 21 a) else pstS (hdU S a n (N S 21 a)) 1 (nI a) (S 16 a) (S 18 a)) j = _
    rw [eU]
    rcases (B.2.2.2.2.2.2.2.2.2.1 a (by omega)).2.2.2.1 with q | ⟨p, hp, ep⟩
    · rw [if_pos (by rw [q]; decide)]
      have : C 16 a = -1 := c16.trans q
      unfold htC
      rw [if_pos this, if_pos this, if_pos this]
      exact ⟨W2, fun _ _ _ => rfl⟩
    · rw [if_neg (by rw [ep]; exact nI_pos (by omega))]
      have : C 16 a ≠ -1 := by rw [c16, ep]; exact nI_m1' (by omega)
      unfold htC
      rw [if_neg this, if_neg this, if_neg this, c16, c18]
      have P := PS_pst (S := mu (mu (mu S 19 a (-1)) 14 a 1) 22 a y) (w := 1) (a := nI a) (b := S 16 a) (x := S 18 a) W2.2.1.1.2.2.2.2.1 W2.2.1.1.2.2.2.2.2.1
      refine ⟨post_W W2 P (fun q => ⟨a, p, ha, hp, rfl, ep, Or.inr (Or.inl ⟨rfl, rfl, ⟨ha, by rw [t14]; decide⟩, ⟨ha, by omega, by rw [row 16 (by decide) (by decide) (by decide)]; exact ep⟩, by rw [row 18 (by decide) (by decide) (by decide)]⟩)⟩) (fun _ => rfl) (fun _ e => absurd e (by decide)) (fun _ e => absurd e (by decide)), PS_lo P⟩
  obtain ⟨V, eV, WV, lo⟩ := key
  rw [eV]
  have t0 : vtr S n a = 0 := Nat.eq_zero_of_not_pos (fun q => nth (E.1.1 _ q))
  have v23 : V 23 = S 23 := (lo 23 (by decide) (by decide)).trans (row 23 (by decide) (by decide) (by decide))
  have v10 : V 10 = S 10 := (lo 10 (by decide) (by decide)).trans (row 10 (by decide) (by decide) (by decide))
  have v12 : V 12 = S 12 := (lo 12 (by decide) (by decide)).trans (row 12 (by decide) (by decide) (by decide))
  have v20 : V 20 = S 20 := (lo 20 (by decide) (by decide)).trans (row 20 (by decide) (by decide) (by decide))
  have v21 : V 21 = S 21 := (lo 21 (by decide) (by decide)).trans (row 21 (by decide) (by decide) (by decide))
  have v3 : V 3 = S 3 := (lo 3 (by decide) (by decide)).trans (row 3 (by decide) (by decide) (by decide))
  have v14 : V 14 a = 1 := by rw [lo 14 (by decide) (by decide)]; exact t14
  have v22 : V 22 a = y := by rw [lo 22 (by decide) (by decide)]; simp [mu]
  have vtrV : vtr V n = vtr S n := by unfold vtr N; rw [v23]
  have vRV : vR V = vR S := by unfold vR N; rw [v10, v12]
  have n21 : N V 21 a = N S 21 a := by simp only [N, v21]
  have R1 := E.1.2.2.2.2.1 a ha
  refine ⟨_, WV, rfl, ⟨ha, by rw [v14]; decide⟩, by rw [vtrV]; exact t0, ?_, fun x q => ?_, ?_, ?_, n21⟩
  · rw [vRV]
    rcases Nat.lt_or_ge (vR S a) 2 with q | q
    · omega
    · have := R1.2 q; omega
  · rw [vtrV]
    exact Nat.eq_zero_of_not_pos (fun z => (D.2.1.2.2.2.2.2.1 x a q nth).1 (E.1.1 _ z))
  · show hdS S a n np (N S 21 a) (N S 3 a) (unN S (hdU S a n (N S 21 a) 22 a) 8) = wkS V a 1 np (N V 21 a) (N V 3 a) (unN V (V 22 a) 8)
    unfold hdS
    rw [hnx, if_pos (by decide), eV, n21]
    have : hdU S a n (N S 21 a) 22 a = y := by rw [eU]; simp [mu]
    rw [this, v22]
    simp only [N, unN, v3]
  · have : ∀ k, k ≤ N S 21 a → haCR (C 55) a k = haR (V 14 a) (V 20) (V 23) a k := by
      intro k
      induction k with
      | zero => intro _; rw [haCR, haR, v14]; rfl
      | succ k ih =>
        intro hk
        rw [haCR, haR, ih (by omega)]
        obtain ⟨c, hc, e1, e2⟩ := kids k (by omega)
        have gk := mc.2.2 k (by rw [cn]; omega)
        have ed : chd S a k = nI c := by show (if k < N S 21 a then _ else _) = _; rw [if_pos (by omega), e1]
        rw [ed, nI_clamp (by omega)] at gk
        rw [v20, v23, e1, nI_clamp (by omega), gk.2.2.1]
        refine congrArg (_ && ·) (decide_eq_decide.mpr ?_)
        have nn := (B.2.2.2.2.2.2.2.2.2.1 c (by omega)).2.2.2.2.2.2.2.2.2.2
        have BT := B.2.2.2.2.2.2.2.2.2.2.2
        by_cases z : S 23 (8 + c) = 0
        · rw [if_pos z, z]; exact ⟨fun w => absurd rfl w, fun w => absurd (by decide) w⟩
        · rw [if_neg z]
          have pos : 0 < N S 23 (8 + c) := by
            rcases Nat.eq_zero_or_pos (N S 23 (8 + c)) with w | w
            · exact absurd (by rw [nn.1, w]; rfl) z
            · exact w
          have t := TXh.2 c (by unfold vtq; rw [if_pos hc]; exact pos)
          refine ⟨fun _ => ?_, fun _ => by rw [t.2.1]; exact nI_m1' (by have := (hI.2.2.2.1.1 c (Nat.lt_of_lt_of_le (by unfold vtq; rw [if_pos hc]; exact pos) (E.1.2.2.1 c))).2.2.1; omega)⟩
          rw [nn.1]
          exact nI_ge (a := 0) pos (by have := nn.2; omega)
    exact this _ (Nat.le_refl _)
end
