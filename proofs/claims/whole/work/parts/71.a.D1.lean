/-! SIMULATION D1. Laid by wip/whole/gen/p71.py -/
abbrev Rl : Type := Nat → Nat → Prop
/-- the token's walk: n agents, same part, root, neighbours, masks, tree ancestors, children, waits, parents, had, through, holds; neighbours above, separators -/
def DI (n : Nat) (sp : Rl) (rt : Nat → Prop) (nb ms A ch wt pa : Rl) (hd th hh : Nat → Prop) (an se : Rl) : Prop :=
  ((∀ a, hd a → a < n) ∧ (∀ a, th a → hd a) ∧ (∀ a, hd a → ms a a) ∧ (∀ a x, ms a x → hd a ∧ hd x) ∧
   (∀ a c, ch a c → pa c a ∧ th c ∧ ms a c ∧ hd a) ∧ (∀ a b, wt a b → hd a ∧ ¬ th a ∧ ¬ ms a b ∧ nb a b ∧ b < n ∧ ¬ hh a) ∧
   (∀ a b, wt a b → hd b → pa b a) ∧ (∀ b a, pa b a → hd b ∧ hd a ∧ (ch a b ∨ wt a b) ∧ sp b a ∧ a ≠ b)) ∧
  ((∀ b a x, pa b a → (A x b ↔ A x a ∨ x = a)) ∧ (∀ b, hd b → (∃ a, pa b a) ∨ (rt b ∧ ∀ x, ¬ A x b)) ∧ (∀ x y, th x → nb x y → ms x y) ∧
   (∀ x y, hd x → ¬ th x → hd y → ¬ th y → sp x y → A x y ∨ A y x ∨ x = y) ∧ (∀ x y, A x y → hd x ∧ hd y ∧ sp x y ∧ x ≠ y) ∧
   (∀ x y, A x y → ¬ th y → ¬ th x ∧ ∃ z, wt x z ∧ (A z y ∨ z = y)) ∧ (∀ x y z, A x y → A y z → A x z)) ∧
  ((∀ a, hd a → ¬ th a → hh a ∨ ∃ b, wt a b) ∧ (∀ b a a', pa b a → pa b a' → a = a') ∧ (∀ b a a', wt b a → wt b a' → a = a') ∧
   (∀ x y, nb x y → nb y x ∧ sp x y ∧ x < n ∧ y < n ∧ x ≠ y) ∧ (∀ a, hh a → hd a ∧ ¬ th a) ∧ (∀ y, hd y → ∃ r, rt r ∧ sp r y ∧ (A r y ∨ r = y)) ∧ (∀ r r', rt r → rt r' → sp r r' → r = r') ∧
   (∀ x, sp x x) ∧ (∀ x y, sp x y → sp y x) ∧ (∀ x y z, sp x y → sp y z → sp x z) ∧ (∀ b a, rt b → ¬ pa b a)) ∧
  ((∀ a x, an a x → A x a) ∧ (∀ a x, se a x → A x a) ∧ (∀ a x, th a → an a x → se a x) ∧ (∀ a c x, th a → ch a c → se c x → x = a ∨ se a x)) ∧
  (∀ a y, hh a → hd y → sp y a → ms a y) ∧ (∀ p a y, wt p a → ¬ hd a → hd y → sp y p → ms p y) ∧ (∀ p b y, wt p b → th b → hd y → sp y p → ms b y) ∧ (∀ x y, A x y → ∃ e, pa e x ∧ (A e y ∨ e = y))
section
variable {n a b p : Nat} {sp : Rl} {rt : Nat → Prop} {nb ms A ch wt pa ms' A' ch' wt' pa' : Rl} {hd th hh hd' th' hh' : Nat → Prop} {an se an' se' : Rl}
theorem DI_tok (D : DI n sp rt nb ms A ch wt pa hd th hh an se) (hn : ∀ x, ¬ hh x) (ha : ¬ hd a) (hw : wt p a)
    (h1 : ∀ x, hd' x ↔ hd x ∨ x = a) (h2 : ∀ x y, ms' x y ↔ (if x = a then ms p y ∨ y = a else ms x y)) (h3 : ∀ x y, A' x y ↔ (if y = a then A x p ∨ x = p else A x y))
    (h4 : ∀ x y, pa' x y ↔ (if x = a then y = p else pa x y)) (h5 : ∀ x, hh' x ↔ x = a) (h6 : ∀ x y, an' x y ↔ if x = a then nb a y ∧ ms p y else an x y) :
    DI n sp rt nb ms' A' ch wt pa' hd' th hh' an' se := by
  obtain ⟨⟨a1, a2, a3, a4, a5, a6, a7, a8⟩, ⟨b1, b2, b3, b4, b5, b6, b7⟩, ⟨c1, c2, c3, c4, c5, c6, c7, c8, c9, c10, c11⟩, ⟨e1, e2, e3, e4⟩, f1, f2, f3, g1⟩ := D
  have k1 := a6 p a hw
  have k2 := c4 p a k1.2.2.2.1
  have key : ∀ x, hd x → ¬ th x → sp x p → A x p ∨ x = p := by
    intro x q1 q2 q3
    rcases b4 x p q1 q2 k1.1 k1.2.1 q3 with q | q | q
    · exact Or.inl q
    · obtain ⟨-, z, q4, q5⟩ := b6 p x q q2
      have := c3 _ _ _ hw q4
      subst this
      rcases q5 with q5 | q5
      · exact absurd (b5 _ _ q5).1 ha
      · subst q5; exact absurd q1 ha
    · exact Or.inr q
  have key2 : ∀ x, wt x a → x = p := by
    intro x q1
    have q2 := a6 x a q1
    have q3 := c4 x a q2.2.2.2.1
    rcases key x q2.1 q2.2.1 (c10 _ _ _ q3.2.1 (c9 _ _ k2.2.1)) with q | q
    · obtain ⟨-, z, q4, q5⟩ := b6 x p q k1.2.1
      have := c3 _ _ _ q1 q4
      subst this
      rcases q5 with q5 | q5
      · exact absurd (b5 _ _ q5).1 ha
      · subst q5; exact absurd k1.1 ha
    · exact q
  have key3 : ¬ rt a := by
    intro q
    obtain ⟨r, q1, q2, q3⟩ := c6 p k1.1
    have := c7 _ _ q q1 (c10 _ _ _ (c9 _ _ k2.2.1) (c9 _ _ q2))
    subst this
    rcases q3 with q3 | q3
    · exact ha (b5 _ _ q3).1
    · subst q3; exact ha k1.1
  have hpa : p ≠ a := k2.2.2.2.2
  have na1 : ∀ x, ¬ A a x := fun x q => ha (b5 _ _ q).1
  have na2 : ∀ x, ¬ A x a := fun x q => ha (b5 _ _ q).2.1
  have na3 : ∀ x, ¬ pa a x := fun x q => ha (a8 _ _ q).1
  have na4 : ∀ x, ¬ pa x a := fun x q => ha (a8 _ _ q).2.1
  have nth : ¬ th a := fun q => ha (a2 _ q)
  have key4 : ∀ x, sp x p → ∀ z, wt x z → (hd z ∧ ¬ th z) ∨ z = a := by
    intro x q1 z q2
    have q3 := a6 _ _ q2
    rcases key x q3.1 q3.2.1 q1 with q | q
    · obtain ⟨-, y, q4, q5⟩ := b6 x p q k1.2.1
      have := c3 _ _ _ q2 q4
      subst this
      rcases q5 with q5 | q5
      · exact Or.inl ⟨(b5 _ _ q5).1, (b6 _ _ q5 k1.2.1).1⟩
      · subst q5; exact Or.inl ⟨k1.1, k1.2.1⟩
    · subst q; exact Or.inr (c3 _ _ _ q2 hw)
  refine ⟨⟨?_, ?_, ?_, ?_, ?_, ?_, ?_, ?_⟩, ⟨?_, ?_, ?_, ?_, ?_, ?_, ?_⟩, ⟨?_, ?_, ?_, ?_, ?_, ?_, ?_, ?_, ?_, ?_, ?_⟩, ⟨?_, ?_, ?_, ?_⟩, ?_, ?_, ?_, ?_⟩
  · grind
  · grind
  · grind
  · grind
  · grind
  · grind
  · intro x b q1 q2; rw [h4]; by_cases hb : b = a
    · subst hb; rw [if_pos rfl]; exact key2 x q1
    · rw [if_neg hb]; exact a7 _ _ q1 (((h1 b).mp q2).resolve_right hb)
  · grind
  · intro b c x q; rw [h4] at q; rw [h3, h3]; by_cases hb : b = a
    · subst hb; rw [if_pos rfl] at q ⊢; subst q; rw [if_neg hpa]
    · rw [if_neg hb] at q ⊢; have : c ≠ a := fun e => na4 _ (e ▸ q); rw [if_neg this]; exact b1 _ _ _ q
  · intro b q; by_cases hb : b = a
    · subst hb; exact Or.inl ⟨p, (h4 _ _).mpr (by rw [if_pos rfl])⟩
    · have q1 : hd b := ((h1 b).mp q).resolve_right hb
      rcases b2 b q1 with ⟨c, q2⟩ | ⟨q2, q3⟩
      · exact Or.inl ⟨c, (h4 _ _).mpr (by rw [if_neg hb]; exact q2)⟩
      · exact Or.inr ⟨q2, fun x q4 => q3 x (by rw [h3, if_neg hb] at q4; exact q4)⟩
  · grind
  · grind
  · grind
  · intro x y q q2; rw [h3] at q; by_cases hy : y = a
    · subst hy; rw [if_pos rfl] at q
      rcases q with q | q
      · obtain ⟨q3, z, q4, q5⟩ := b6 x p q k1.2.1
        exact ⟨q3, z, q4, Or.inl ((h3 _ _).mpr (by rw [if_pos rfl]; exact q5))⟩
      · subst q; exact ⟨k1.2.1, _, hw, Or.inr rfl⟩
    · rw [if_neg hy] at q
      obtain ⟨q3, z, q4, q5⟩ := b6 x y q q2
      exact ⟨q3, z, q4, q5.imp_left (fun e => (h3 _ _).mpr (by rw [if_neg hy]; exact e))⟩
  · intro x y z q1 q2; rw [h3] at q1 q2 ⊢; by_cases hz : z = a
    · subst hz; rw [if_pos rfl] at q2 ⊢
      have hy : y ≠ z := fun e => by
        subst e; rcases q2 with q2 | q2
        · exact na1 _ q2
        · exact hpa q2.symm
      rw [if_neg hy] at q1
      rcases q2 with q2 | q2
      · exact Or.inl (b7 _ _ _ q1 q2)
      · subst q2; exact Or.inl q1
    · rw [if_neg hz] at q2 ⊢
      have hy : y ≠ a := fun e => na1 _ (e ▸ q2)
      rw [if_neg hy] at q1
      exact b7 _ _ _ q1 q2
  · intro x q1 q2; by_cases hx : x = a
    · exact Or.inl ((h5 _).mpr hx)
    · exact (c1 x (((h1 x).mp q1).resolve_right hx) q2).elim (fun e => absurd e (hn x)) Or.inr
  · intro b c e q1 q2; rw [h4] at q1 q2; by_cases hb : b = a
    · rw [if_pos hb] at q1 q2; rw [q1, q2]
    · rw [if_neg hb] at q1 q2; exact c2 _ _ _ q1 q2
  · grind
  · grind
  · grind
  · intro y q; by_cases hy : y = a
    · subst hy; obtain ⟨r, q1, q2, q3⟩ := c6 p k1.1
      exact ⟨r, q1, c10 _ _ _ q2 k2.2.1, Or.inl ((h3 _ _).mpr (by rw [if_pos rfl]; exact q3))⟩
    · obtain ⟨r, q1, q2, q3⟩ := c6 y (((h1 y).mp q).resolve_right hy)
      exact ⟨r, q1, q2, q3.imp_left (fun e => (h3 _ _).mpr (by rw [if_neg hy]; exact e))⟩
  · grind
  · grind
  · grind
  · grind
  · intro b c q1 q2; rw [h4] at q2; by_cases hb : b = a
    · subst hb; exact key3 q1
    · rw [if_neg hb] at q2; exact c11 _ _ q1 q2
  · intro x y q; rw [h6] at q; rw [h3]; by_cases hx : x = a
    · subst hx; rw [if_pos rfl] at q ⊢
      have q3 := (a4 _ _ q.2).2
      have q4 := c4 _ _ q.1
      refine key y q3 (fun q5 => ?_) (c10 _ _ _ (c9 _ _ q4.2.1) (c9 _ _ k2.2.1))
      exact ha (a4 _ _ (b3 y x q5 q4.1)).2
    · rw [if_neg hx] at q ⊢; exact e1 _ _ q
  · grind
  · grind
  · grind
  · intro x y q1 q2 q3; have := (h5 _).mp q1; subst this; rw [h2, if_pos rfl]; rcases (h1 y).mp q2 with q | q
    · exact Or.inl (f2 _ _ _ hw ha q (c10 _ _ _ q3 (c9 _ _ k2.2.1)))
    · exact Or.inr q
  · intro x z y q1 q2 q3 q4; have hx : x ≠ a := fun e => ha (e ▸ (a6 _ _ q1).1)
    rw [h2, if_neg hx]
    have hz : ¬ hd z := fun e => q2 ((h1 z).mpr (Or.inl e))
    rcases (h1 y).mp q3 with q | q
    · exact f2 _ _ _ q1 hz q q4
    · subst q; rcases key4 x (c10 _ _ _ (c9 _ _ q4) (c9 _ _ k2.2.1)) z q1 with e | e
      · exact absurd e.1 hz
      · exact absurd ((h1 z).mpr (Or.inr e)) q2
  · intro x z y q1 q2 q3 q4; have hz : z ≠ a := fun e => nth (e ▸ q2)
    rw [h2, if_neg hz]
    rcases (h1 y).mp q3 with q | q
    · exact f3 _ _ _ q1 q2 q q4
    · subst q; rcases key4 x (c10 _ _ _ (c9 _ _ q4) (c9 _ _ k2.2.1)) z q1 with e | e
      · exact absurd q2 e.2
      · exact absurd e hz
  · intro x y q; rw [h3] at q; by_cases hy : y = a
    · subst hy; rw [if_pos rfl] at q
      rcases q with q | q
      · obtain ⟨e, q1, q2⟩ := g1 _ _ q
        have he : e ≠ y := fun z => na3 _ (z ▸ q1)
        exact ⟨e, (h4 _ _).mpr (by rw [if_neg he]; exact q1), Or.inl ((h3 _ _).mpr (by rw [if_pos rfl]; exact q2))⟩
      · subst q; exact ⟨y, (h4 _ _).mpr (by rw [if_pos rfl]), Or.inr rfl⟩
    · rw [if_neg hy] at q; obtain ⟨e, q1, q2⟩ := g1 _ _ q
      have he : e ≠ a := fun z => na3 _ (z ▸ q1)
      exact ⟨e, (h4 _ _).mpr (by rw [if_neg he]; exact q1), q2.imp_left (fun z => (h3 _ _).mpr (by rw [if_neg hy]; exact z))⟩
theorem DI_root (D : DI n sp rt nb ms A ch wt pa hd th hh an se) (hn : ∀ x, ¬ hh x) (ha : ¬ hd a) (hr : rt a) (han : a < n)
    (h1 : ∀ x, hd' x ↔ hd x ∨ x = a) (h2 : ∀ x y, ms' x y ↔ (if x = a then y = a else ms x y)) (h5 : ∀ x, hh' x ↔ x = a) :
    DI n sp rt nb ms' A ch wt pa hd' th hh' an se := by
  obtain ⟨⟨a1, a2, a3, a4, a5, a6, a7, a8⟩, ⟨b1, b2, b3, b4, b5, b6, b7⟩, ⟨c1, c2, c3, c4, c5, c6, c7, c8, c9, c10, c11⟩, ⟨e1, e2, e3, e4⟩, f1, f2, f3, g1⟩ := D
  have key : ∀ y, hd y → ¬ sp y a := by
    intro y q q0
    obtain ⟨r, q1, q2, q3⟩ := c6 y q
    have := c7 _ _ hr q1 (c9 _ _ (c10 _ _ _ q2 q0))
    subst this
    rcases q3 with q3 | q3
    · exact ha (b5 _ _ q3).1
    · subst q3; exact ha q
  have na1 : ∀ x, ¬ A a x := fun x q => ha (b5 _ _ q).1
  have na2 : ∀ x, ¬ A x a := fun x q => ha (b5 _ _ q).2.1
  have na3 : ∀ x, ¬ pa a x := fun x q => ha (a8 _ _ q).1
  have na4 : ∀ x, ¬ pa x a := fun x q => ha (a8 _ _ q).2.1
  have nth : ¬ th a := fun q => ha (a2 _ q)
  have nwt : ∀ x, ¬ wt x a := fun x q => key x (a6 _ _ q).1 (c4 _ _ (a6 _ _ q).2.2.2.1).2.1
  refine ⟨⟨?_, ?_, ?_, ?_, ?_, ?_, ?_, ?_⟩, ⟨?_, ?_, ?_, ?_, ?_, ?_, ?_⟩, ⟨?_, ?_, ?_, ?_, ?_, ?_, ?_, ?_, ?_, ?_, ?_⟩, ⟨?_, ?_, ?_, ?_⟩, ?_, ?_, ?_, ?_⟩
  · grind
  · grind
  · grind
  · grind
  · grind
  · grind
  · grind
  · grind
  · grind
  · intro b q; by_cases hb : b = a
    · subst hb; exact Or.inr ⟨hr, na2⟩
    · exact b2 b (((h1 b).mp q).resolve_right hb)
  · grind
  · grind
  · grind
  · exact b6
  · grind
  · intro x q1 q2; by_cases hx : x = a
    · exact Or.inl ((h5 _).mpr hx)
    · exact (c1 x (((h1 x).mp q1).resolve_right hx) q2).elim (fun e => absurd e (hn x)) Or.inr
  · grind
  · grind
  · grind
  · grind
  · intro y q; by_cases hy : y = a
    · subst hy; exact ⟨y, hr, c8 _, Or.inr rfl⟩
    · exact c6 y (((h1 y).mp q).resolve_right hy)
  · grind
  · grind
  · grind
  · grind
  · grind
  · grind
  · grind
  · grind
  · grind
  · grind
  · grind
  · grind
  · exact g1
theorem DI_wait (D : DI n sp rt nb ms A ch wt pa hd th hh an se) (hn : ∀ x, hh x → x = a) (ha : hh a) (hb1 : nb a b) (hb2 : ¬ ms a b) (h1 : ∀ x y, wt' x y ↔ if x = a then y = b else wt x y) (h2 : ∀ x, ¬ hh' x) :
    DI n sp rt nb ms A ch wt' pa hd th hh' an se := by
  obtain ⟨⟨a1, a2, a3, a4, a5, a6, a7, a8⟩, ⟨b1, b2, b3, b4, b5, b6, b7⟩, ⟨c1, c2, c3, c4, c5, c6, c7, c8, c9, c10, c11⟩, ⟨e1, e2, e3, e4⟩, f1, f2, f3, g1⟩ := D
  have k1 := c5 a ha
  have k2 := c4 a b hb1
  have nhb : ¬ hd b := fun q => hb2 (f1 a b ha q (c9 _ _ k2.2.1))
  have nwa : ∀ x, ¬ wt a x := fun x q => (a6 _ _ q).2.2.2.2.2 ha
  have nab : ∀ x y, A x y → x = a → th y := fun x y q e => by
    subst e
    rcases Classical.em (th y) with r | r
    · exact r
    · obtain ⟨-, z, q1, -⟩ := b6 _ _ q r
      exact absurd q1 (nwa z)
  refine ⟨⟨?_, ?_, ?_, ?_, ?_, ?_, ?_, ?_⟩, ⟨?_, ?_, ?_, ?_, ?_, ?_, ?_⟩, ⟨?_, ?_, ?_, ?_, ?_, ?_, ?_, ?_, ?_, ?_, ?_⟩, ⟨?_, ?_, ?_, ?_⟩, ?_, ?_, ?_, ?_⟩
  · grind
  · grind
  · grind
  · grind
  · grind
  · grind
  · grind
  · grind
  · grind
  · exact b2
  · grind
  · grind
  · grind
  · intro x y q q2; obtain ⟨q3, z, q4, q5⟩ := b6 x y q q2
    have hx : x ≠ a := fun e => q2 (nab _ _ q e)
    exact ⟨q3, z, (h1 _ _).mpr (by rw [if_neg hx]; exact q4), q5⟩
  · grind
  · intro x q1 q2; by_cases hx : x = a
    · exact Or.inr ⟨b, (h1 _ _).mpr (by rw [if_pos hx])⟩
    · rcases c1 x q1 q2 with q | ⟨z, q⟩
      · exact absurd (hn x q) hx
      · exact Or.inr ⟨z, (h1 _ _).mpr (by rw [if_neg hx]; exact q)⟩
  · grind
  · intro x y z q1 q2; rw [h1] at q1 q2; by_cases hx : x = a
    · rw [if_pos hx] at q1 q2; rw [q1, q2]
    · rw [if_neg hx] at q1 q2; exact c3 _ _ _ q1 q2
  · grind
  · grind
  · exact c6
  · grind
  · grind
  · grind
  · grind
  · grind
  · grind
  · grind
  · grind
  · grind
  · grind
  · grind
  · grind
  · exact g1
theorem DI_thr (D : DI n sp rt nb ms A ch wt pa hd th hh an se) (hn : ∀ x, hh x → x = a) (ha : hh a) (hb : ∀ y, nb a y → ms a y) (h1 : ∀ x, th' x ↔ th x ∨ x = a) (h2 : ∀ x, ¬ hh' x) (h3 : ∀ x y, se' x y ↔ if x = a then (an a y ∨ ∃ c, ch a c ∧ se c y) ∧ y ≠ a else se x y) :
    DI n sp rt nb ms A ch wt pa hd th' hh' an se' := by
  obtain ⟨⟨a1, a2, a3, a4, a5, a6, a7, a8⟩, ⟨b1, b2, b3, b4, b5, b6, b7⟩, ⟨c1, c2, c3, c4, c5, c6, c7, c8, c9, c10, c11⟩, ⟨e1, e2, e3, e4⟩, f1, f2, f3, g1⟩ := D
  have k1 := c5 a ha
  have nwa : ∀ x, ¬ wt a x := fun x q => (a6 _ _ q).2.2.2.2.2 ha
  have nab : ∀ y, A a y → th y := fun y q => by
    rcases Classical.em (th y) with r | r
    · exact r
    · obtain ⟨-, z, q1, -⟩ := b6 _ _ q r
      exact absurd q1 (nwa z)
  refine ⟨⟨?_, ?_, ?_, ?_, ?_, ?_, ?_, ?_⟩, ⟨?_, ?_, ?_, ?_, ?_, ?_, ?_⟩, ⟨?_, ?_, ?_, ?_, ?_, ?_, ?_, ?_, ?_, ?_, ?_⟩, ⟨?_, ?_, ?_, ?_⟩, ?_, ?_, ?_, ?_⟩
  · grind
  · grind
  · grind
  · grind
  · grind
  · grind
  · grind
  · grind
  · grind
  · exact b2
  · grind
  · grind
  · grind
  · intro x y q q2; have q9 : ¬ th y := fun e => q2 ((h1 _).mpr (Or.inl e))
    obtain ⟨q3, z, q4, q5⟩ := b6 x y q q9
    exact ⟨fun e => ((h1 x).mp e).elim q3 (fun e => q9 (nab y (e ▸ q))), z, q4, q5⟩
  · grind
  · intro x q1 q2; have q3 : ¬ th x := fun e => q2 ((h1 _).mpr (Or.inl e))
    rcases c1 x q1 q3 with q | q
    · exact absurd ((h1 _).mpr (Or.inr (hn x q))) q2
    · exact Or.inr q
  · grind
  · grind
  · grind
  · grind
  · grind
  · grind
  · grind
  · grind
  · grind
  · grind
  · grind
  · intro x y q; rw [h3] at q; by_cases hx : x = a
    · subst hx; rw [if_pos rfl] at q
      rcases q.1 with q1 | ⟨c, q1, q2⟩
      · exact e1 _ _ q1
      · exact ((b1 _ _ _ (a5 _ _ q1).1).mp (e2 _ _ q2)).resolve_right q.2
    · rw [if_neg hx] at q; exact e2 _ _ q
  · intro x y q1 q2; rw [h3]; by_cases hx : x = a
    · subst hx; rw [if_pos rfl]; exact ⟨Or.inl q2, fun e => (b5 _ _ (e1 _ _ q2)).2.2.2 e⟩
    · rw [if_neg hx]; exact e3 _ _ (((h1 x).mp q1).resolve_right hx) q2
  · intro x c y q1 q2 q3; have hc : c ≠ a := fun e => k1.2 (e ▸ (a5 _ _ q2).2.1)
    rw [h3, if_neg hc] at q3; rw [h3]; by_cases hx : x = a
    · subst hx; rw [if_pos rfl]; by_cases hy : y = x
      · exact Or.inl hy
      · exact Or.inr ⟨Or.inr ⟨c, q2, q3⟩, hy⟩
    · rw [if_neg hx]; exact e4 _ _ _ (((h1 x).mp q1).resolve_right hx) q2 q3
  · grind
  · grind
  · intro p x y q1 q2 q3 q4; rcases (h1 x).mp q2 with q | q
    · exact f3 _ _ _ q1 q q3 q4
    · subst q; exact f1 _ _ ha q3 (c10 _ _ _ q4 (c4 _ _ (a6 _ _ q1).2.2.2.1).2.1)
  · exact g1
theorem DI_back (D : DI n sp rt nb ms A ch wt pa hd th hh an se) (hn : ∀ x, ¬ hh x) (hw : wt a b) (hb : th b) (h1 : ∀ x y, ms' x y ↔ if x = a then ms b y else ms x y) (h2 : ∀ x y, ch' x y ↔ ch x y ∨ (x = a ∧ y = b)) (h3 : ∀ x y, wt' x y ↔ wt x y ∧ x ≠ a) (h4 : ∀ x, hh' x ↔ x = a) :
    DI n sp rt nb ms' A ch' wt' pa hd th hh' an se := by
  obtain ⟨⟨a1, a2, a3, a4, a5, a6, a7, a8⟩, ⟨b1, b2, b3, b4, b5, b6, b7⟩, ⟨c1, c2, c3, c4, c5, c6, c7, c8, c9, c10, c11⟩, ⟨e1, e2, e3, e4⟩, f1, f2, f3, g1⟩ := D
  have k1 := a6 a b hw
  have k2 := c4 a b k1.2.2.2.1
  have hdb := a2 b hb
  have kp := a7 a b hw hdb
  have nab : ∀ y, A a y → th y := fun y q => by
    rcases Classical.em (th y) with r | r
    · exact r
    · obtain ⟨-, z, q1, q2⟩ := b6 _ _ q r
      have := c3 _ _ _ hw q1
      subst this
      rcases q2 with q2 | q2
      · exact absurd hb (b6 _ _ q2 r).1
      · subst q2; exact absurd hb r
  have key : ∀ x, sp x a → ∀ z, wt x z → x ≠ a → hd z ∧ ¬ th z := by
    intro x q1 z q2 q0
    have q3 := a6 _ _ q2
    rcases b4 x a q3.1 q3.2.1 k1.1 k1.2.1 q1 with q | q | q
    · obtain ⟨-, y, q4, q5⟩ := b6 x a q k1.2.1
      have := c3 _ _ _ q2 q4
      subst this
      rcases q5 with q5 | q5
      · exact ⟨(b5 _ _ q5).1, (b6 _ _ q5 k1.2.1).1⟩
      · subst q5; exact ⟨k1.1, k1.2.1⟩
    · exact absurd (nab _ q) q3.2.1
    · exact absurd q q0
  have mb : ∀ y, hd y → sp y a → ms b y := fun y q1 q2 => f3 _ _ _ hw hb q1 q2
  refine ⟨⟨?_, ?_, ?_, ?_, ?_, ?_, ?_, ?_⟩, ⟨?_, ?_, ?_, ?_, ?_, ?_, ?_⟩, ⟨?_, ?_, ?_, ?_, ?_, ?_, ?_, ?_, ?_, ?_, ?_⟩, ⟨?_, ?_, ?_, ?_⟩, ?_, ?_, ?_, ?_⟩
  · grind
  · grind
  · intro x q; rw [h1]; by_cases hx : x = a
    · subst hx; rw [if_pos rfl]; exact mb _ q (c8 _)
    · rw [if_neg hx]; exact a3 _ q
  · intro x y q; rw [h1] at q; by_cases hx : x = a
    · subst hx; rw [if_pos rfl] at q; exact ⟨k1.1, (a4 _ _ q).2⟩
    · rw [if_neg hx] at q; exact a4 _ _ q
  · intro x c q; rw [h1]; rcases (h2 _ _).mp q with q | ⟨q, q1⟩
    · have q2 := a5 _ _ q
      refine ⟨q2.1, q2.2.1, ?_, q2.2.2.2⟩
      by_cases hx : x = a
      · subst hx; rw [if_pos rfl]; exact mb _ (a2 _ q2.2.1) (a8 _ _ q2.1).2.2.2.1
      · rw [if_neg hx]; exact q2.2.2.1
    · subst q; subst q1; rw [if_pos rfl]; exact ⟨kp, hb, a3 _ hdb, k1.1⟩
  · grind
  · grind
  · intro x y q; have q1 := a8 _ _ q
    refine ⟨q1.1, q1.2.1, ?_, q1.2.2.2⟩
    rcases q1.2.2.1 with q2 | q2
    · exact Or.inl ((h2 _ _).mpr (Or.inl q2))
    · by_cases hy : y = a
      · subst hy; have := c3 _ _ _ hw q2; subst this; exact Or.inl ((h2 _ _).mpr (Or.inr ⟨rfl, rfl⟩))
      · exact Or.inr ((h3 _ _).mpr ⟨q2, hy⟩)
  · grind
  · exact b2
  · grind
  · grind
  · grind
  · intro x y q q2; obtain ⟨q3, z, q4, q5⟩ := b6 x y q q2
    have hx : x ≠ a := fun e => q2 (nab _ (e ▸ q))
    exact ⟨q3, z, (h3 _ _).mpr ⟨q4, hx⟩, q5⟩
  · grind
  · intro x q1 q2; by_cases hx : x = a
    · exact Or.inl ((h4 _).mpr hx)
    · rcases c1 x q1 q2 with q | ⟨z, q⟩
      · exact absurd q (hn x)
      · exact Or.inr ⟨z, (h3 _ _).mpr ⟨q, hx⟩⟩
  · grind
  · grind
  · grind
  · grind
  · exact c6
  · grind
  · grind
  · grind
  · grind
  · grind
  · grind
  · grind
  · grind
  · intro x c y q1 q2 q3; rcases (h2 _ _).mp q2 with q | ⟨q, -⟩
    · exact e4 _ _ _ q1 q q3
    · subst q; exact absurd q1 k1.2.1
  · intro x y q1 q2 q3; have := (h4 _).mp q1; subst this; rw [h1, if_pos rfl]; exact mb _ q2 q3
  · intro p x y q1 q2 q3 q4; have q5 := (h3 _ _).mp q1; rw [h1, if_neg q5.2]; exact f2 _ _ _ q5.1 q2 q3 q4
  · intro p x y q1 q2 q3 q4; have q5 := (h3 _ _).mp q1
    have hx : x ≠ a := fun e => k1.2.1 (e ▸ q2)
    rw [h1, if_neg hx]; exact f3 _ _ _ q5.1 q2 q3 q4
  · exact g1
end
