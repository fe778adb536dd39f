/-! SIMULATION R1. Laid by wip/whole/gen/p71.py -/
/-- the runs: of parts, of tables made and delivered, of choices, of none -/
def RI (n : Nat) (sp : Rl) (rt : Nat → Prop) (A ch pa : Rl) (hd th : Nat → Prop) (R tr tq st nr : Nat → Nat) : Prop :=
  ((∀ a, 0 < tr a → th a) ∧ (∀ a c, 0 < tr a → ch a c → 0 < tq c) ∧ (∀ b, tq b ≤ tr b) ∧ (∀ a, tr a ≤ R a) ∧ (∀ a, a < n → 1 ≤ R a ∧ (2 ≤ R a → 0 < tr a)) ∧
   (∀ b p, pa b p → tq b < tr b → tr b = R b) ∧ (∀ b p c q, 2 ≤ R b → pa b p → pa c q → sp b c → tq b < tr b → tq c < tr c → b = c) ∧ (∀ b p x, pa b p → tq b < tr b → A x b → tr x < R b)) ∧
  ((∀ r b p, rt r → tr r = R r → pa b p → sp b r → tq b = tr b) ∧ (∀ x c, A x c → 0 < tr x → 0 < tq c) ∧ (∀ a, st a ≤ R a ∧ (0 < st a → 0 < tr a)) ∧ (∀ a r, a < n → st a = R a → rt r → sp r a → st r = R r) ∧
   (∀ r, rt r → st r = R r → tr r = R r) ∧ (∀ r, nr r ≤ R r ∧ (rt r → nr r = R r → tr r = R r ∧ st r ≠ R r)) ∧ (∀ a b, sp a b → R a = R b) ∧ (∀ r, rt r → r < n) ∧ (∀ c a, pa c a → st a ≠ R a → st c = st a))
section
variable {n a b c p : Nat} {sp : Rl} {rt : Nat → Prop} {nb ms A ch wt pa ms' A' ch' wt' pa' : Rl} {hd th hh hd' th' hh' : Nat → Prop} {an se an' se' : Rl} {R tr tq st nr R' tr' tq' st' nr' : Nat → Nat}
theorem RI_tok (D : DI n sp rt nb ms A ch wt pa hd th hh an se) (E : RI n sp rt A ch pa hd th R tr tq st nr) (ha : ¬ hd a) (hw : wt p a) (h1 : ∀ x, hd' x ↔ hd x ∨ x = a) (h3 : ∀ x y, A' x y ↔ (if y = a then A x p ∨ x = p else A x y)) (h4 : ∀ x y, pa' x y ↔ (if x = a then y = p else pa x y)) :
    RI n sp rt A' ch pa' hd' th R tr tq st nr := by
  obtain ⟨⟨a1, a2, a3, a4, a5, a6, a7, a8⟩, ⟨b1, b2, b3, b4, b5, b6, b7⟩, ⟨c1, c2, c3, c4, c5, c6, c7, c8, c9, c10, c11⟩, ⟨e1, e2, e3, e4⟩, f1, f2, f3, g1⟩ := D
  obtain ⟨⟨r1, r2, r3, r4, r5, r6, r7, r8⟩, r9, r10, r11, r12, r13, r14, r15, r16, r17⟩ := E
  have k1 := a6 p a hw
  have t0 : tr a = 0 := Nat.eq_zero_of_not_pos (fun q => ha (a2 _ (r1 _ q)))
  have q0 : tq a = 0 := by have := r3 a; omega
  have na3 : ∀ x, ¬ pa a x := fun x q => ha (a8 _ _ q).1
  have pp : ∀ x y, pa' x y → 0 < tr x → pa x y ∧ x ≠ a := fun x y q q1 => by
    have hx : x ≠ a := fun e => by rw [e, t0] at q1; exact Nat.lt_irrefl _ q1
    rw [h4, if_neg hx] at q
    exact ⟨q, hx⟩
  have tp : tr p = 0 := Nat.eq_zero_of_not_pos (fun q => k1.2.1 (r1 _ q))
  have tx : ∀ x, A x p → tr x = 0 := fun x q => Nat.eq_zero_of_not_pos (fun q1 => (b6 _ _ q k1.2.1).1 (r1 _ q1))
  refine ⟨⟨?_, ?_, ?_, ?_, ?_, ?_, ?_, ?_⟩, ?_, ?_, ?_, ?_, ?_, ?_, ?_, ?_, ?_⟩
  · exact r1
  · exact r2
  · exact r3
  · exact r4
  · exact r5
  · intro x y q q1; exact r6 x y (pp x y q (by omega)).1 q1
  · intro x y z w q0 q1 q2 q3 q4 q5; exact r7 x y z w q0 (pp x y q1 (by omega)).1 (pp z w q2 (by omega)).1 q3 q4 q5
  · intro x y z q q1 q2; have q3 := pp x y q (by omega); rw [h3, if_neg q3.2] at q2; exact r8 x y z q3.1 q1 q2
  · intro r x y q1 q2 q3 q4; by_cases hx : x = a
    · rw [hx]; omega
    · rw [h4, if_neg hx] at q3; exact r9 _ _ _ q1 q2 q3 q4
  · intro x y q q1; rw [h3] at q; by_cases hy : y = a
    · rw [if_pos hy] at q; rcases q with q | q
      · have := tx _ q; omega
      · rw [q] at q1; omega
    · rw [if_neg hy] at q; exact r10 _ _ q q1
  · exact r11
  · exact r12
  · exact r13
  · exact r14
  · exact r15
  · exact r16
  · intro x y q q1; by_cases hx : x = a
    · rw [h4, if_pos hx] at q
      have z1 := (r11 a).2; have z2 := (r11 p).2
      rw [hx, q]; omega
    · rw [h4, if_neg hx] at q; exact r17 _ _ q q1
theorem RI_root (D : DI n sp rt nb ms A ch wt pa hd th hh an se) (E : RI n sp rt A ch pa hd th R tr tq st nr) (h1 : ∀ x, hd' x ↔ hd x ∨ x = a) :
    RI n sp rt A ch pa hd' th R tr tq st nr := by
  obtain ⟨⟨a1, a2, a3, a4, a5, a6, a7, a8⟩, ⟨b1, b2, b3, b4, b5, b6, b7⟩, ⟨c1, c2, c3, c4, c5, c6, c7, c8, c9, c10, c11⟩, ⟨e1, e2, e3, e4⟩, f1, f2, f3, g1⟩ := D
  obtain ⟨⟨r1, r2, r3, r4, r5, r6, r7, r8⟩, r9, r10, r11, r12, r13, r14, r15, r16, r17⟩ := E
  refine ⟨⟨?_, ?_, ?_, ?_, ?_, ?_, ?_, ?_⟩, ?_, ?_, ?_, ?_, ?_, ?_, ?_, ?_, ?_⟩
  · exact r1
  · exact r2
  · exact r3
  · exact r4
  · exact r5
  · exact r6
  · exact r7
  · exact r8
  · exact r9
  · exact r10
  · exact r11
  · exact r12
  · exact r13
  · exact r14
  · exact r15
  · exact r16
  · exact r17
theorem RI_thr (D : DI n sp rt nb ms A ch wt pa hd th hh an se) (E : RI n sp rt A ch pa hd th R tr tq st nr) (h1 : ∀ x, th' x ↔ th x ∨ x = a) :
    RI n sp rt A ch pa hd th' R tr tq st nr := by
  obtain ⟨⟨a1, a2, a3, a4, a5, a6, a7, a8⟩, ⟨b1, b2, b3, b4, b5, b6, b7⟩, ⟨c1, c2, c3, c4, c5, c6, c7, c8, c9, c10, c11⟩, ⟨e1, e2, e3, e4⟩, f1, f2, f3, g1⟩ := D
  obtain ⟨⟨r1, r2, r3, r4, r5, r6, r7, r8⟩, r9, r10, r11, r12, r13, r14, r15, r16, r17⟩ := E
  refine ⟨⟨?_, ?_, ?_, ?_, ?_, ?_, ?_, ?_⟩, ?_, ?_, ?_, ?_, ?_, ?_, ?_, ?_, ?_⟩
  · intro x q; exact (h1 x).mpr (Or.inl (r1 x q))
  · exact r2
  · exact r3
  · exact r4
  · exact r5
  · exact r6
  · exact r7
  · exact r8
  · exact r9
  · exact r10
  · exact r11
  · exact r12
  · exact r13
  · exact r14
  · exact r15
  · exact r16
  · exact r17
theorem RI_back (D : DI n sp rt nb ms A ch wt pa hd th hh an se) (E : RI n sp rt A ch pa hd th R tr tq st nr) (hw : wt a b) (h2 : ∀ x y, ch' x y ↔ ch x y ∨ (x = a ∧ y = b)) :
    RI n sp rt A ch' pa hd th R tr tq st nr := by
  obtain ⟨⟨a1, a2, a3, a4, a5, a6, a7, a8⟩, ⟨b1, b2, b3, b4, b5, b6, b7⟩, ⟨c1, c2, c3, c4, c5, c6, c7, c8, c9, c10, c11⟩, ⟨e1, e2, e3, e4⟩, f1, f2, f3, g1⟩ := D
  obtain ⟨⟨r1, r2, r3, r4, r5, r6, r7, r8⟩, r9, r10, r11, r12, r13, r14, r15, r16, r17⟩ := E
  refine ⟨⟨?_, ?_, ?_, ?_, ?_, ?_, ?_, ?_⟩, ?_, ?_, ?_, ?_, ?_, ?_, ?_, ?_, ?_⟩
  · exact r1
  · intro x y q q1; rcases (h2 _ _).mp q1 with q2 | ⟨q2, -⟩
    · exact r2 _ _ q q2
    · subst q2; exact absurd (r1 _ q) (a6 _ _ hw).2.1
  · exact r3
  · exact r4
  · exact r5
  · exact r6
  · exact r7
  · exact r8
  · exact r9
  · exact r10
  · exact r11
  · exact r12
  · exact r13
  · exact r14
  · exact r15
  · exact r16
  · exact r17
theorem RI_dlv (D : DI n sp rt nb ms A ch wt pa hd th hh an se) (E : RI n sp rt A ch pa hd th R tr tq st nr) (hu : tq b < tr b) (h1 : ∀ x, tq' x = if x = b then tr b else tq x) :
    RI n sp rt A ch pa hd th R tr tq' st nr := by
  obtain ⟨⟨a1, a2, a3, a4, a5, a6, a7, a8⟩, ⟨b1, b2, b3, b4, b5, b6, b7⟩, ⟨c1, c2, c3, c4, c5, c6, c7, c8, c9, c10, c11⟩, ⟨e1, e2, e3, e4⟩, f1, f2, f3, g1⟩ := D
  obtain ⟨⟨r1, r2, r3, r4, r5, r6, r7, r8⟩, r9, r10, r11, r12, r13, r14, r15, r16, r17⟩ := E
  have m1 : ∀ x, tq x ≤ tq' x := fun x => by rw [h1]; split
                                             · rename_i e; rw [e]; exact r3 b
                                             · exact Nat.le_refl _
  have m2 : ∀ x, tq' x < tr x → tq x < tr x := fun x q => by have := m1 x; omega
  refine ⟨⟨?_, ?_, ?_, ?_, ?_, ?_, ?_, ?_⟩, ?_, ?_, ?_, ?_, ?_, ?_, ?_, ?_, ?_⟩
  · exact r1
  · intro x y q q1; exact Nat.lt_of_lt_of_le (r2 x y q q1) (m1 y)
  · intro x; rw [h1]; split
    · rename_i e; rw [e]; exact Nat.le_refl _
    · exact r3 x
  · exact r4
  · exact r5
  · intro x y q q1; exact r6 x y q (m2 _ q1)
  · intro x y z w q0 q1 q2 q3 q4 q5; exact r7 x y z w q0 q1 q2 q3 (m2 _ q4) (m2 _ q5)
  · intro x y z q q1 q2; exact r8 x y z q (m2 _ q1) q2
  · intro r x y q1 q2 q3 q4; have := r9 r x y q1 q2 q3 q4; rw [h1]; split
    · rename_i e; rw [e]
    · exact this
  · intro x y q q1; exact Nat.lt_of_lt_of_le (r10 x y q q1) (m1 y)
  · exact r11
  · exact r12
  · exact r13
  · exact r14
  · exact r15
  · exact r16
  · exact r17
theorem RI_make (D : DI n sp rt nb ms A ch wt pa hd th hh an se) (E : RI n sp rt A ch pa hd th R tr tq st nr) (ht : th a) (hch : ∀ c, ch a c → 0 < tq c) (han : a < n) (hlt : tr a < R a) (hu : 2 ≤ R a → ∀ x y, pa x y → sp x a → tq x = tr x) (hA : ∀ x, A x a → tr x < R a) (h1 : ∀ x, tr' x = if x = a then R a else tr x) :
    RI n sp rt A ch pa hd th R tr' tq st nr := by
  obtain ⟨⟨a1, a2, a3, a4, a5, a6, a7, a8⟩, ⟨b1, b2, b3, b4, b5, b6, b7⟩, ⟨c1, c2, c3, c4, c5, c6, c7, c8, c9, c10, c11⟩, ⟨e1, e2, e3, e4⟩, f1, f2, f3, g1⟩ := D
  obtain ⟨⟨r1, r2, r3, r4, r5, r6, r7, r8⟩, r9, r10, r11, r12, r13, r14, r15, r16, r17⟩ := E
  have m0 : tr' a = R a := by rw [h1, if_pos rfl]
  have m1 : ∀ x, x ≠ a → tr' x = tr x := fun x q => by rw [h1, if_neg q]
  have m2 : ∀ x, tr x ≤ tr' x := fun x => by
    by_cases hx : x = a
    · rw [hx, m0]; omega
    · rw [m1 x hx]; exact Nat.le_refl _
  have hR := r5 a han
  have n10 : ∀ x y, A x y → 0 < tr' x → 0 < tq y := by
    intro x y q q1
    by_cases hx : x = a
    · subst hx
      obtain ⟨e, q2, q3⟩ := g1 _ _ q
      have q4 : 0 < tq e := by
        rcases (a8 _ _ q2).2.2.1 with q4 | q4
        · exact hch e q4
        · exact absurd ht (a6 _ _ q4).2.1
      rcases q3 with q3 | q3
      · exact r10 _ _ q3 (Nat.lt_of_lt_of_le q4 (r3 e))
      · rw [← q3]; exact q4
    · rw [m1 x hx] at q1; exact r10 _ _ q q1
  have one : ∀ x y, pa x y → sp x a → R a < 2 → 0 < tq x → tq x = tr x := fun x y q q1 q2 q3 => by
    have q4 := r3 x
    have q5 := r4 x
    have q6 := r15 _ _ q1
    omega
  refine ⟨⟨?_, ?_, ?_, ?_, ?_, ?_, ?_, ?_⟩, ?_, ?_, ?_, ?_, ?_, ?_, ?_, ?_, ?_⟩
  · intro x q; by_cases hx : x = a
    · rw [hx]; exact ht
    · rw [m1 x hx] at q; exact r1 x q
  · intro x y q q1; by_cases hx : x = a
    · rw [hx] at q1; exact hch y q1
    · rw [m1 x hx] at q; exact r2 x y q q1
  · intro x; exact Nat.le_trans (r3 x) (m2 x)
  · intro x; by_cases hx : x = a
    · rw [hx, m0]; exact Nat.le_refl _
    · rw [m1 x hx]; exact r4 x
  · intro x q; have q1 := r5 x q; exact ⟨q1.1, fun q2 => Nat.lt_of_lt_of_le (q1.2 q2) (m2 x)⟩
  · intro x y q q1; by_cases hx : x = a
    · rw [hx, m0]
    · rw [m1 x hx] at q1 ⊢; exact r6 x y q q1
  · intro x y z w q0 q1 q2 q3 q4 q5; by_cases hx : x = a
    · by_cases hz : z = a
      · rw [hx, hz]
      · rw [m1 z hz] at q5; rw [hx] at q0 q3; have := hu q0 z w q2 (c9 _ _ q3); omega
    · rw [m1 x hx] at q4; by_cases hz : z = a
      · rw [hz] at q3; have := hu (by rw [← r15 _ _ q3]; exact q0) x y q1 q3; omega
      · rw [m1 z hz] at q5; exact r7 x y z w q0 q1 q2 q3 q4 q5
  · intro x y z q q1 q2; have qz : tr' z = tr z ∨ z = a := by
      by_cases hz : z = a
      · exact Or.inr hz
      · exact Or.inl (m1 z hz)
    by_cases hx : x = a
    · subst hx; rcases qz with qz | qz
      · rw [qz]; exact hA z q2
      · subst qz; exact absurd rfl (b5 _ _ q2).2.2.2
    · rw [m1 x hx] at q1; rcases qz with qz | qz
      · rw [qz]; exact r8 x y z q q1 q2
      · subst qz; have q3 := (b5 _ _ q2).2.2.1
        rcases Nat.lt_or_ge (R z) 2 with q4 | q4
        · have q5 := n10 _ _ q2 (by rw [m0]; omega)
          have := one x y q (c9 _ _ q3) q4 q5; omega
        · have := hu q4 x y q (c9 _ _ q3); omega
  · intro r x y q1 q2 q3 q4; by_cases hr : r = a
    · subst hr; have hx : x ≠ r := fun e => c11 _ _ q1 (e ▸ q3)
      rw [m1 x hx]; rcases Nat.lt_or_ge (R r) 2 with q5 | q5
      · have q6 : 0 < tq x := by
          have q7 := (a8 _ _ q3).1
          obtain ⟨r', q8, q9, q10⟩ := c6 x q7
          have := c7 _ _ q1 q8 (c9 _ _ (c10 _ _ _ q9 q4))
          subst this
          rcases q10 with q10 | q10
          · exact n10 _ _ q10 (by rw [m0]; omega)
          · exact absurd q10.symm hx
        exact one x y q3 q4 q5 q6
      · exact hu q5 x y q3 q4
    · rw [m1 r hr] at q2; by_cases hx : x = a
      · subst hx; exfalso
        obtain ⟨r', q8, q9, q10⟩ := c6 x (a8 _ _ q3).1
        have := c7 _ _ q1 q8 (c9 _ _ (c10 _ _ _ q9 q4))
        subst this
        rcases q10 with q10 | q10
        · have := hA _ q10; rw [r15 _ _ q4] at this; omega
        · exact hr q10
      · rw [m1 x hx]; exact r9 r x y q1 q2 q3 q4
  · exact n10
  · intro x; have q := r11 x; exact ⟨q.1, fun q1 => Nat.lt_of_lt_of_le (q.2 q1) (m2 x)⟩
  · exact r12
  · intro r q q1; have q2 := r13 r q q1; by_cases hr : r = a
    · rw [hr, m0]
    · rw [m1 r hr]; exact q2
  · intro r; have q := r14 r; refine ⟨q.1, fun q1 q2 => ?_⟩
    have q3 := q.2 q1 q2
    refine ⟨?_, q3.2⟩
    by_cases hr : r = a
    · rw [hr, m0]
    · rw [m1 r hr]; exact q3.1
  · exact r15
  · exact r16
  · exact r17
theorem RI_bump (D : DI n sp rt nb ms A ch wt pa hd th hh an se) (E : RI n sp rt A ch pa hd th R tr tq st nr) (hr : rt c) (hall : ∀ x, x < n → sp x c → 0 < tr x) (hlt : tr c = R c) (h1 : ∀ x, R' x = R x ∨ R' x = R x + 1) (h2 : ∀ x, sp x c → R' x = R x + 1) (h3 : ∀ x, x < n → ¬ sp x c → R' x = R x) (h4 : ∀ x y, sp x y → R' x = R' y) (h5 : ∀ x y, pa x y → sp x c → st x = st y) :
    RI n sp rt A ch pa hd th R' tr tq st nr := by
  obtain ⟨⟨a1, a2, a3, a4, a5, a6, a7, a8⟩, ⟨b1, b2, b3, b4, b5, b6, b7⟩, ⟨c1, c2, c3, c4, c5, c6, c7, c8, c9, c10, c11⟩, ⟨e1, e2, e3, e4⟩, f1, f2, f3, g1⟩ := D
  obtain ⟨⟨r1, r2, r3, r4, r5, r6, r7, r8⟩, r9, r10, r11, r12, r13, r14, r15, r16, r17⟩ := E
  have dv : ∀ x y, pa x y → sp x c → tq x = tr x := fun x y q q1 => r9 _ _ _ hr hlt q q1
  have le : ∀ x, R x ≤ R' x := fun x => by rcases h1 x with q | q <;> omega
  refine ⟨⟨?_, ?_, ?_, ?_, ?_, ?_, ?_, ?_⟩, ?_, ?_, ?_, ?_, ?_, ?_, ?_, ?_, ?_⟩
  · exact r1
  · exact r2
  · exact r3
  · intro x; exact Nat.le_trans (r4 x) (le x)
  · intro x q; have q1 := r5 x q; refine ⟨Nat.le_trans q1.1 (le x), fun q2 => ?_⟩
    rcases Classical.em (sp x c) with q3 | q3
    · exact hall x q q3
    · rw [h3 x q q3] at q2; exact q1.2 q2
  · intro x y q q1; rcases Classical.em (sp x c) with q3 | q3
    · have := dv x y q q3; omega
    · rw [h3 x (a1 _ (a8 _ _ q).1) q3]; exact r6 x y q q1
  · intro x y z w q0 q1 q2 q3 q4 q5; rcases Classical.em (sp x c) with q6 | q6
    · have := dv x y q1 q6; omega
    · rw [h3 x (a1 _ (a8 _ _ q1).1) q6] at q0; exact r7 x y z w q0 q1 q2 q3 q4 q5
  · intro x y z q q1 q2; exact Nat.lt_of_lt_of_le (r8 x y z q q1 q2) (le x)
  · intro r x y q1 q2 q3 q4; rcases Classical.em (sp r c) with q6 | q6
    · have := r4 r; have := h2 r q6; omega
    · rw [h3 r (r16 r q1) q6] at q2; exact r9 r x y q1 q2 q3 q4
  · exact r10
  · intro x; have q := r11 x; exact ⟨Nat.le_trans q.1 (le x), q.2⟩
  · intro x r q0 q1 q2 q3; rcases Classical.em (sp x c) with q6 | q6
    · have := (r11 x).1; have := h2 x q6; omega
    · rw [h3 x q0 q6] at q1; have q7 : ¬ sp r c := fun e => q6 (c10 _ _ _ (c9 _ _ q3) e)
      rw [h3 r (r16 r q2) q7]; exact r12 x r q0 q1 q2 q3
  · intro r q q1; rcases Classical.em (sp r c) with q6 | q6
    · have := (r11 r).1; have := h2 r q6; omega
    · rw [h3 r (r16 r q) q6] at q1 ⊢; exact r13 r q q1
  · intro r; have q := r14 r; refine ⟨Nat.le_trans q.1 (le r), fun q1 q2 => ?_⟩
    rcases Classical.em (sp r c) with q6 | q6
    · have := q.1; have := h2 r q6; omega
    · rw [h3 r (r16 r q1) q6] at q2 ⊢; exact q.2 q1 q2
  · exact h4
  · exact r16
  · intro x y q q1; rcases Classical.em (sp x c) with q6 | q6
    · exact h5 x y q q6
    · have z := (a8 _ _ q).2.2.2.1
      have q7 : ¬ sp y c := fun e => q6 (c10 _ _ _ z e)
      rw [h3 y (a1 _ (a8 _ _ q).2.1) q7] at q1; exact r17 _ _ q q1
theorem RI_set (D : DI n sp rt nb ms A ch wt pa hd th hh an se) (E : RI n sp rt A ch pa hd th R tr tq st nr) (ht : 0 < tr a) (hn1 : rt a → tr a = R a ∧ nr a ≠ R a) (hp : ∀ r, rt r → sp r a → r ≠ a → st r = R r) (hpp : ∀ p, pa a p → st p = R p) (h1 : ∀ x, st' x = if x = a then R a else st x) :
    RI n sp rt A ch pa hd th R tr tq st' nr := by
  obtain ⟨⟨a1, a2, a3, a4, a5, a6, a7, a8⟩, ⟨b1, b2, b3, b4, b5, b6, b7⟩, ⟨c1, c2, c3, c4, c5, c6, c7, c8, c9, c10, c11⟩, ⟨e1, e2, e3, e4⟩, f1, f2, f3, g1⟩ := D
  obtain ⟨⟨r1, r2, r3, r4, r5, r6, r7, r8⟩, r9, r10, r11, r12, r13, r14, r15, r16, r17⟩ := E
  have m0 : st' a = R a := by rw [h1, if_pos rfl]
  have m1 : ∀ x, x ≠ a → st' x = st x := fun x q => by rw [h1, if_neg q]
  refine ⟨⟨?_, ?_, ?_, ?_, ?_, ?_, ?_, ?_⟩, ?_, ?_, ?_, ?_, ?_, ?_, ?_, ?_, ?_⟩
  · exact r1
  · exact r2
  · exact r3
  · exact r4
  · exact r5
  · exact r6
  · exact r7
  · exact r8
  · exact r9
  · exact r10
  · intro x; by_cases hx : x = a
    · rw [hx, m0]; exact ⟨Nat.le_refl _, fun _ => ht⟩
    · rw [m1 x hx]; exact r11 x
  · intro x r q0 q1 q2 q3; by_cases hr : r = a
    · rw [hr, m0]
    · rw [m1 r hr]; by_cases hx : x = a
      · subst hx; exact hp r q2 q3 hr
      · rw [m1 x hx] at q1; exact r12 x r q0 q1 q2 q3
  · intro r q q1; by_cases hr : r = a
    · rw [hr]; rw [hr] at q; exact (hn1 q).1
    · rw [m1 r hr] at q1; exact r13 r q q1
  · intro r; have q := r14 r; refine ⟨q.1, fun q1 q2 => ?_⟩
    by_cases hr : r = a
    · rw [hr] at q1 q2; exact absurd q2 (hn1 q1).2
    · rw [m1 r hr]; exact q.2 q1 q2
  · exact r15
  · exact r16
  · intro x y q q1; by_cases hy : y = a
    · rw [hy, m0] at q1; exact absurd rfl q1
    · rw [m1 y hy] at q1 ⊢; by_cases hx : x = a
      · rw [hx] at q; exact absurd (hpp y q) q1
      · rw [m1 x hx]; exact r17 _ _ q q1
theorem RI_none (D : DI n sp rt nb ms A ch wt pa hd th hh an se) (E : RI n sp rt A ch pa hd th R tr tq st nr) (hn1 : tr a = R a) (hn2 : st a ≠ R a) (h1 : ∀ x, nr' x = if x = a then R a else nr x) :
    RI n sp rt A ch pa hd th R tr tq st nr' := by
  obtain ⟨⟨a1, a2, a3, a4, a5, a6, a7, a8⟩, ⟨b1, b2, b3, b4, b5, b6, b7⟩, ⟨c1, c2, c3, c4, c5, c6, c7, c8, c9, c10, c11⟩, ⟨e1, e2, e3, e4⟩, f1, f2, f3, g1⟩ := D
  obtain ⟨⟨r1, r2, r3, r4, r5, r6, r7, r8⟩, r9, r10, r11, r12, r13, r14, r15, r16, r17⟩ := E
  refine ⟨⟨?_, ?_, ?_, ?_, ?_, ?_, ?_, ?_⟩, ?_, ?_, ?_, ?_, ?_, ?_, ?_, ?_, ?_⟩
  · exact r1
  · exact r2
  · exact r3
  · exact r4
  · exact r5
  · exact r6
  · exact r7
  · exact r8
  · exact r9
  · exact r10
  · exact r11
  · exact r12
  · exact r13
  · intro r; rw [h1]; split
    · rename_i e; rw [e]; exact ⟨Nat.le_refl _, fun _ _ => ⟨hn1, hn2⟩⟩
    · exact r14 r
  · exact r15
  · exact r16
  · exact r17
end
