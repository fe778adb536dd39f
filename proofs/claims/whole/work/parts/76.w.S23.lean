/-! SIMULATION S23. Laid by wip/whole/gen/p71.py -/
section
variable {S C U : mS} {n np nl T : Nat} {sz : Nat → Nat → Nat} {A : Rl} {dd : Nat → Nat}
def ctR (P : Nat → Bool) : Nat → Nat
  | 0 => 0
  | k + 1 => if P k = true then ctR P k + 1 else ctR P k
theorem ct_c {P Q : Nat → Bool} : ∀ k, (∀ i, i < k → P i = Q i) → ctR P k = ctR Q k
  | 0, _ => rfl
  | k + 1, h => by rw [ctR, ctR, ct_c k (fun i hi => h i (by omega)), h k (by omega)]
theorem ct_one {P Q : Nat → Bool} {r : Nat} : ∀ k, (∀ i, i < k → (P i = true ↔ Q i = true ∨ i = r)) → ¬ Q r = true → ctR P k = ctR Q k + (if r < k then 1 else 0)
  | 0, _, _ => by rw [if_neg (by omega)]; rfl
  | k + 1, h, hr => by
    have ih := ct_one k (fun i hi => h i (by omega)) hr
    have hk := h k (by omega)
    rw [ctR, ctR, ih]
    by_cases z : k = r
    · have hr' : ¬ Q k = true := by rw [z]; exact hr
      have l1 : ¬ r < k := by omega
      have l2 : r < k + 1 := by omega
      rw [if_pos (hk.mpr (Or.inr z)), if_neg hr', if_neg l1, if_pos l2]
    · by_cases y : Q k = true
      · rw [if_pos (hk.mpr (Or.inl y)), if_pos y]
        by_cases w : r < k
        · rw [if_pos w, if_pos (by omega)]
        · rw [if_neg w, if_neg (by omega)]
      · rw [if_neg (fun w => (hk.mp w).elim y z), if_neg y]
        by_cases w : r < k
        · rw [if_pos w, if_pos (by omega)]
        · rw [if_neg w, if_neg (by omega)]
abbrev rtB (U : mS) (i : Nat) : Bool := decide (U 10 i ≠ -1 ∧ U 11 (N U 10 i) = nI i)
theorem cnt_all (h8 : n ≤ 8) (h9 : ∀ a, a < 8 → ∃ m, m < 256 ∧ S 9 a = nI m) (hN : ∀ x y, vnb S n x y → vnb S n y x ∧ x ≠ y ∧ y < n) (h10 : ∀ i, i < 8 → S 10 i = -1) : ∀ a, a ≤ n → spN S n (MM S n) a = ctR (rtB (spF S n (MM S n) a)) n
  | 0, _ => by
    show 0 = ctR (rtB S) n
    have : ∀ k, k ≤ n → ctR (rtB S) k = 0 := by
      intro k
      induction k with
      | zero => intro _; rfl
      | succ k ih => intro hk; rw [ctR, if_neg (by rw [decide_eq_true_iff]; exact fun z => z.1 (h10 k (by omega))), ih (by omega)]
    exact (this n (Nat.le_refl _)).symm
  | a + 1, h => by
    have ih := cnt_all h8 h9 hN h10 a (by omega)
    have J := JJ_all h8 h9 hN h10 a (by omega)
    obtain ⟨j0, j1, j2, j3, j4, j5⟩ := id J
    obtain ⟨m1, m2, m3, m4, m5⟩ := mem_all h8 h9 hN
    rw [spN, spF]
    rcases j1 a (by omega) with z | ⟨q, z1, z2, z3, -⟩
    · rw [if_neg (by rw [z]; decide), if_neg (by rw [z]; decide), ih]
      generalize hU : spF S n (MM S n) a = V at *
      have e10 : ∀ i, fpC V a (MM S n a) n 10 i = if i < n ∧ mem S n a i then nI a else V 10 i := fun i => by unfold fpC mem; simp
      have e11 : ∀ i, fpC V a (MM S n a) n 11 i = if i = a then rtR (S 9) (MM S n a) n else V 11 i := fun i => by unfold fpC; rw [← j0 9 (by decide) (by decide) (by decide)]; simp
      obtain ⟨r, r1, r2, r3⟩ := (rtR_ix (S 9) (MM S n a) n).resolve_left (fun w => w.2 a (by omega) (m2 a (by omega)))
      have nm : ∀ i, i < n → mem S n a i → V 10 i = -1 := fun i hi w => by
        rcases j1 i hi with y | ⟨q, y1, y2, y3, y4⟩
        · exact y
        · have : mem S n q a := (mem_eq h8 h9 hN y2 hi (by omega) y4).mpr ((mem_eq h8 h9 hN (by omega) hi (by omega) w).mp (m2 a (by omega)))
          have := j2 i q a hi y2 y3 (by omega) this
          rw [z] at this; exact absurd this.symm (nI_m1' (by omega))
      have hone := ct_one (P := rtB (fpC V a (MM S n a) n)) (Q := rtB V) (r := r) n (fun i hi => by
        rw [decide_eq_true_iff, decide_eq_true_iff]
        by_cases w : mem S n a i
        · have v1 := nm i hi w
          have f1 : fpC V a (MM S n a) n 10 i = nI a := by rw [e10, if_pos ⟨hi, w⟩]
          have f2 : N (fpC V a (MM S n a) n) 10 i = a := N_nI f1 (by omega)
          rw [f1, f2, e11, if_pos rfl, r2, v1]
          constructor
          · intro y; exact Or.inr (nI_inj (by omega) (by omega) y.2.symm)
          · intro y
            rcases y with y | y
            · exact absurd rfl y.1
            · exact ⟨nI_m1' (by omega), by rw [y]⟩
        · have f1 : fpC V a (MM S n a) n 10 i = V 10 i := by rw [e10, if_neg (fun y => w y.2)]
          have f2 : N (fpC V a (MM S n a) n) 10 i = N V 10 i := by simp only [N, f1]
          rw [f1, f2, e11]
          have ir : i ≠ r := fun y => w (by rw [y]; exact r3)
          constructor
          · intro y
            refine Or.inl ⟨y.1, ?_⟩
            have := y.2
            rcases j1 i hi with x | ⟨q, x1, x2, x3, x4⟩
            · exact absurd x y.1
            · have nq : N V 10 i = q := N_nI x3 (by omega)
              rw [nq, if_neg (by omega)] at this
              rw [nq]; exact this
          · intro y
            have y := y.resolve_right ir
            refine ⟨y.1, ?_⟩
            rcases j1 i hi with x | ⟨q, x1, x2, x3, x4⟩
            · exact absurd x y.1
            · have nq : N V 10 i = q := N_nI x3 (by omega)
              rw [nq, if_neg (by omega)]
              have := y.2; rw [nq] at this; exact this) (by
        rw [decide_eq_true_iff]
        exact fun y => y.1 (nm r r1 r3))
      rw [hone, if_pos r1]
    · rw [if_pos (by rw [z3]; exact nI_pos' (by omega)), if_pos (by rw [z3]; exact nI_pos' (by omega)), ih]
theorem IS_ini (h8 : n ≤ 8) (h9 : ∀ a, a < 8 → ∃ m, m < 256 ∧ S 9 a = nI m) (hN : ∀ x y, vnb S n x y → vnb S n y x ∧ x ≠ y ∧ y < n) (J : JJ S U n n) (h10 : ∀ i, i < 8 → S 10 i = -1) (hrest : ∀ j, 13 ≤ j → j < 34 → S j = mS0 j) : IS U n np (fun _ _ => False) (fun _ => 0) noH ∧ ∀ a, a < n → vR U a = 1 := by
  obtain ⟨j0, j1, j2, j3, j4, j5⟩ := J
  obtain ⟨m1, m2, m3, m4, m5⟩ := mem_all h8 h9 hN
  have row : ∀ j, 13 ≤ j → j < 34 → U j = mS0 j := fun j q1 q2 => by rw [j0 j (by omega) (by omega) (by omega)]; exact hrest j q1 q2
  have zr : ∀ j i, 13 ≤ j → j < 34 → j ≠ 16 → j ≠ 19 → j ≠ 31 → U j i = 0 := fun j i q1 q2 q3 q4 q5 => by rw [row j q1 q2]; simp [mS0, rsR, mZ, q3, q4, q5]; intro z; omega
  have mr : ∀ i, i < 8 → U 16 i = -1 ∧ U 19 i = -1 := fun i hi => by rw [row 16 (by decide) (by decide), row 19 (by decide) (by decide)]; simp [mS0, rsR, mZ, hi]
  have kr : ∀ i, i < 64 → U 31 i = -1 := fun i hi => by rw [row 31 (by decide) (by decide)]; simp [mS0, rsR, mZ, hi]
  have hd0 : ∀ a, ¬ vhd U n a := fun a q => q.2 (zr 13 a (by decide) (by decide) (by decide) (by decide) (by decide))
  have th0 : ∀ a, ¬ vth U n a := fun a q => q.2 (zr 14 a (by decide) (by decide) (by decide) (by decide) (by decide))
  have ms0 : ∀ a x, ¬ vms U n a x := fun a x q => by have := q.2.2; rw [zr 18 a (by decide) (by decide) (by decide) (by decide) (by decide)] at this; exact cI_0 q.2.1 this
  have an0 : ∀ a x, ¬ van U n a x := fun a x q => by have := q.2.2; rw [zr 17 a (by decide) (by decide) (by decide) (by decide) (by decide)] at this; exact cI_0 q.2.1 this
  have se0 : ∀ a x, ¬ vse U n a x := fun a x q => by have := q.2.2; rw [zr 22 a (by decide) (by decide) (by decide) (by decide) (by decide)] at this; exact cI_0 q.2.1 this
  have n21 : ∀ a, N U 21 a = 0 := fun a => by show (U 21 a).toNatClampNeg = 0; rw [zr 21 a (by decide) (by decide) (by decide) (by decide) (by decide)]; rfl
  have ch0 : ∀ a x, ¬ vch U n a x := fun a x ⟨_, _, k, q, _⟩ => by rw [n21] at q; omega
  have wt0 : ∀ a x, ¬ vwt U n a x := fun a x q => by have := q.2.2; rw [(mr a (by have := q.1; omega)).2] at this; exact nI_m1' (by have := q.2.1; omega) this.symm
  have pa0 : ∀ a x, ¬ vpa U n a x := fun a x q => by have := q.2.2; rw [(mr a (by have := q.1; omega)).1] at this; exact nI_m1' (by have := q.2.1; omega) this.symm
  have tr0 : ∀ a, vtr U n a = 0 := fun a => by unfold vtr N; rw [zr 23 a (by decide) (by decide) (by decide) (by decide) (by decide)]; split <;> rfl
  have tq0 : ∀ a, vtq U n a = 0 := fun a => by unfold vtq N; rw [zr 23 (8 + a) (by decide) (by decide) (by decide) (by decide) (by decide)]; split <;> rfl
  have st0' : ∀ a, vst U n a = 0 := fun a => by unfold vst N; rw [zr 28 a (by decide) (by decide) (by decide) (by decide) (by decide)]; split <;> rfl
  have nr0 : ∀ a, vnr U n a = 0 := fun a => by unfold vnr N; rw [zr 29 a (by decide) (by decide) (by decide) (by decide) (by decide)]; split <;> rfl
  have ix : ∀ a, a < n → ∃ q, q < n ∧ U 10 a = nI q ∧ mem S n q a := fun a ha => by
    rcases j1 a ha with z | ⟨q, z1, z2, z3, z4⟩
    · exact absurd z (j3 a ha ha)
    · exact ⟨q, z2, z3, z4⟩
  have R1 : ∀ a, a < n → vR U a = 1 := fun a ha => by
    obtain ⟨q, q1, q2, q3⟩ := ix a ha
    unfold vR; rw [show N U 10 a = q from N_nI q2 (by omega)]; show (U 12 q).toNatClampNeg = 1; rw [(j4 a q ha q1 q2).2]; rfl
  have nbU : ∀ x y, vnb U n x y ↔ vnb S n x y := fun x y => by unfold vnb; rw [j0 9 (by decide) (by decide) (by decide)]
  have nbsp : ∀ x y, vnb U n x y → vsp U x y := fun x y q => by
    have q' := (nbU x y).mp q
    obtain ⟨p, p1, p2, p3⟩ := ix x q.1
    have := j2 x p y q.1 p1 p2 (hN x y q').2.2 (m3 p x y p1 q.1 p3 q')
    show U 10 x = U 10 y; rw [p2, this]
  have rtn : ∀ r, vrt U n r → ∃ q, q < n ∧ U 10 r = nI q ∧ U 11 q = nI r ∧ mem S n q r := fun r q => by
    obtain ⟨p, p1, p2, p3⟩ := ix r q.1
    have := q.2; rw [show N U 10 r = p from N_nI p2 (by omega)] at this
    exact ⟨p, p1, p2, this, p3⟩
  refine ⟨⟨?_, ?_, ⟨fun a q => absurd q (hd0 a), fun a b q => absurd q (wt0 a b)⟩, ⟨fun a q => by rw [tr0] at q; omega, fun a q => by rw [tq0] at q; omega⟩, fun a ha => ⟨fun x hx => Or.inl (kr _ (by omega)), fun _ x hx => kr _ (by omega), fun q => by rw [st0'] at q; omega, fun _ x hx _ => kr _ (by omega), fun q => by rw [st0', R1 a ha] at q; omega⟩, ?_⟩, R1⟩
  · refine ⟨⟨fun a q => absurd q (hd0 a), fun a q => absurd q (th0 a), fun a q => absurd q (hd0 a), fun a x q => absurd q (ms0 a x), fun a x q => absurd q (ch0 a x), fun a x q => absurd q (wt0 a x), fun a x q => absurd q (wt0 a x), fun a x q => absurd q (pa0 a x)⟩, ⟨fun b a x q => absurd q (pa0 b a), fun a q => absurd q (hd0 a), fun x y q => absurd q (th0 x), fun x y q => absurd q (hd0 x), fun x y q => absurd q id, fun x y q => absurd q id, fun x y z q => absurd q id⟩, ⟨fun a q => absurd q (hd0 a), fun b a a' q => absurd q (pa0 b a), fun b a a' q => absurd q (wt0 b a), fun x y q => ?_, fun a q => absurd q id, fun y q => absurd q (hd0 y), fun r r' q1 q2 q3 => ?_, fun x => rfl, fun x y q => Eq.symm q, fun x y z q1 q2 => Eq.trans q1 q2, fun b a _ q => absurd q (pa0 b a)⟩, ⟨fun a x q => absurd q (an0 a x), fun a x q => absurd q (se0 a x), fun a x q => absurd q (th0 a), fun a c x q => absurd q (th0 a)⟩, fun a y q => absurd q id, fun p a y q => absurd q (wt0 p a), fun p b y q => absurd q (wt0 p b), fun x y q => absurd q id⟩
    · have q' := hN x y ((nbU x y).mp q)
      exact ⟨(nbU y x).mpr q'.1, nbsp x y q, q.1, q'.2.2, q'.2.1⟩
    · obtain ⟨p, p1, p2, p3, -⟩ := rtn r q1
      obtain ⟨p', p1', p2', p3', -⟩ := rtn r' q2
      have e : p = p' := nI_inj (by omega) (by omega) (p2.symm.trans ((show U 10 r = U 10 r' from q3).trans p2'))
      rw [e, p3'] at p3
      exact (nI_inj (by have := q2.1; omega) (by have := q1.1; omega) p3).symm
  · refine ⟨⟨fun a q => by rw [tr0] at q; omega, fun a c q => by rw [tr0] at q; omega, fun b => by rw [tq0]; omega, fun a => by rw [tr0]; omega, fun a ha => by rw [R1 a ha]; exact ⟨Nat.le_refl _, fun q => by omega⟩, fun b p q => absurd q (pa0 b p), fun b p c q _ z => absurd z (pa0 b p), fun b p x q => absurd q (pa0 b p)⟩, fun r b p _ _ q => absurd q (pa0 b p), fun x c q => absurd q id, fun a => by rw [st0']; exact ⟨Nat.zero_le _, fun q => by omega⟩, fun a r ha q => by rw [st0', R1 a ha] at q; omega, fun r q1 q => by rw [st0', R1 r q1.1] at q; omega, fun r => by rw [nr0]; exact ⟨Nat.zero_le _, fun q1 q => by rw [R1 r q1.1] at q; omega⟩, fun a b q => ?_, fun r q => q.1, fun c a q => absurd q (pa0 c a)⟩
    show N U 12 (N U 10 a) = N U 12 (N U 10 b)
    have : U 10 a = U 10 b := q
    simp only [N]; rw [this]
  · refine ⟨fun a ha => ?_, fun a h1 h2 => by rw [j5 a h1]; exact h10 a h2, fun r q P hP hc a ha hs => ?_⟩
    · obtain ⟨q, q1, q2, q3⟩ := ix a ha
      obtain ⟨r, r1, r2, r3⟩ := (rtR_ix (S 9) (MM S n q) n).resolve_left (fun w => w.2 q q1 (m2 q q1))
      exact ⟨q, r, q1, r1, q2, by rw [(j4 a q ha q1 q2).1]; exact r2, j2 a q r ha q1 q2 r1 r3⟩
    · obtain ⟨p, p1, p2, p3, p4⟩ := rtn r q
      obtain ⟨p', p1', p2', p4'⟩ := ix a ha
      have e : p = p' := nI_inj (by omega) (by omega) (p2.symm.trans ((show U 10 a = U 10 r from hs).symm.trans p2'))
      rw [← e] at p4'
      exact m5 P r a q.1 (by omega) (fun x y h1 h2 => hc x y h1 ((nbU x y).mpr h2)) hP ((mem_eq h8 h9 hN p1 q.1 (by omega) p4).mp p4')
theorem root_W {a : Nat} (W : WI S C n np nl T sz A dd noH 8 8) (ha : a < n) (hna : ¬ vhd S n a) (hr : vrt S n a) (h17 : S 17 a = 0) :
    ∃ dd', WI (rt0 S a (-1) 0) (mu C 18 a (1 <<< (nI a &&& 31))) n np nl T sz A dd' (fun x => x = a) a 8 := by
  obtain ⟨w1, B, M, IXh, LVs, CDh, Z5h⟩ := W
  have n8 := B.1.2.1
  have hI := (IX8 n8).mp IXh
  obtain ⟨D, E, -⟩ := id IXh
  have cc0 : N S 21 a = 0 := by
    rcases Nat.eq_zero_or_pos (N S 21 a) with q | q
    · exact q
    · obtain ⟨c, hc, ec⟩ := B.2.2.2.2.2.2.2.2.2.2.1 a 0 ha q
      exact absurd (D.1.2.2.2.2.1 a c ⟨ha, by omega, 0, q, ec⟩).2.2.2 hna
  have h16 : S 16 a = -1 := by
    rcases par_ix B ha with q | ⟨p, q1, q2⟩
    · exact q
    · exact absurd (D.1.2.2.2.2.2.2.2 a p ⟨ha, by omega, q2⟩).1 hna
  have row : ∀ j, j ≠ 13 → j ≠ 16 → j ≠ 17 → j ≠ 18 → (rt0 S a (-1) 0) j = S j := fun j q1 q2 q3 q4 => by rw [rt0, mu_row q4, mu_row q3, mu_row q2, mu_row q1]
  refine ⟨_, by rw [row 2 (by decide) (by decide) (by decide) (by decide)]; exact w1, BI_tok ha (Or.inl rfl) B, SIM_root n8 ha h16 h17 M, (IX8 n8).mpr (IS_root hI n8 (fun x q => q) ha hna hr cc0 h17 h16 B.2.2.2.2.2.2.2.2.2.2.1), fun k hk => ?_, CD_r CDh (row 20 (by decide) (by decide) (by decide) (by decide)) (row 21 (by decide) (by decide) (by decide) (by decide)), Z5_r Z5h (row 10 (by decide) (by decide) (by decide) (by decide)) (fun _ => rfl)⟩
  have := LVs k hk
  unfold LVk at *
  rw [row 35 (by decide) (by decide) (by decide) (by decide), row 36 (by decide) (by decide) (by decide) (by decide), row 37 (by decide) (by decide) (by decide) (by decide), row 38 (by decide) (by decide) (by decide) (by decide), row 39 (by decide) (by decide) (by decide) (by decide), row 40 (by decide) (by decide) (by decide) (by decide), row 41 (by decide) (by decide) (by decide) (by decide)]
  exact LV_tok D ha hna this
end
