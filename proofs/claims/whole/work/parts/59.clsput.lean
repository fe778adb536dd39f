/-! THE CLASS: rows that are made, letters that are laid down. Written by wip/whole/gen/p59.py -/
section
variable {Γ : jm_G} {h h0 : jm_H} {x : Nat} {L : Nat → Nat → Nat} {ρ ρ0 : Nat → Nat} {sz : Nat → Nat → Nat} {C : mS}
abbrev rl (ρ : Nat → Nat) (q a : Nat) : Nat → Nat := fun p => if p = q then a else ρ p
def lu (L : Nat → Nat → Nat) (g i q : Nat) : Nat → Nat → Nat := fun g' i' => if g' = g ∧ i' = i then q else L g' i'
/-- a cell of its own (role 6) is written -/
theorem co_wp {q t i : Nat} {v : Value} (hc : co Γ h x L ρ sz C) (h6 : ρ q = 6) : co Γ (jm_set h t i q v) x L ρ sz C := by
  obtain ⟨c1, c2, c3, c4, c5, cb⟩ := hc
  have hz : ∀ p, ρ p ≠ 6 → ∀ t' j, (jm_set h t i q v).2 t' j p = h.2 t' j p := by
    intro p hp t' j
    show (if t' = t ∧ j = i ∧ p = q then v else h.2 t' j p) = _
    rw [if_neg]
    rintro ⟨-, -, rfl⟩
    exact hp h6
  have hz' : ∀ p, h.1 p ≠ none → ρ p = 0 → (jm_set h t i q v).1 p = h.1 p ∧ ρ p = ρ p ∧ ∀ t' j, (jm_set h t i q v).2 t' j p = h.2 t' j p := fun p _ h2 => ⟨rfl, rfl, hz p (by omega)⟩
  refine ⟨?_, c2, ?_, ?_, fun k hk => (c5 k hk).fr hz', cb⟩
  · intro r j hl
    obtain ⟨d1, d2, d3⟩ := c1 r j hl
    exact ⟨d1, d2, (hz _ (by rw [d2]; exact (cR_pos hl).2) _ _).trans d3⟩
  · intro a ha
    have e : ρ (L 1 a) = 10 + a := (c1 3 a ha).2.1
    have e1 := hz (L 1 a) (by omega) 1 14
    have e2 := hz (L 1 a) (by omega) 1 16
    rw [e1, e2]
    exact ⟨(c3 a ha).1.fr hz', (c3 a ha).2.fr hz'⟩
  · intro j hj
    have e : ρ (L 4 j) = 100 + j := (c1 53 j hj).2.1
    have e1 := hz (L 4 j) (by omega) 3 2
    rw [e1]
    exact (c4 j hj).fr hz'
theorem xt_wp {q t i : Nat} {v : Value} (hf : xt ρ0 h0 ρ h) (hq0 : h0.1 q = none) : xt ρ0 h0 ρ (jm_set h t i q v) := by
  intro p hp
  obtain ⟨f1, f2, f3⟩ := hf p hp
  refine ⟨f1, f2, fun z t' j => ?_⟩
  show (if t' = t ∧ j = i ∧ p = q then v else h.2 t' j p) = _
  rw [if_neg]
  · exact f3 z t' j
  · rintro ⟨-, -, rfl⟩
    exact hp hq0
/-- a cell of its own gets a role -/
theorem co_rl {q a : Nat} (hc : co Γ h x L ρ sz C) (h6 : ρ q = 6) : co Γ h x L (rl ρ q a) sz C := by
  obtain ⟨c1, c2, c3, c4, c5, cb⟩ := hc
  have hz : ∀ p, ρ p ≠ 6 → rl ρ q a p = ρ p := by
    intro p hp
    exact if_neg (fun e => hp (by rw [e]; exact h6))
  have hz' : ∀ p, h.1 p ≠ none → ρ p = 0 → h.1 p = h.1 p ∧ rl ρ q a p = ρ p ∧ ∀ t' j, h.2 t' j p = h.2 t' j p := fun p _ h2 => ⟨rfl, hz p (by omega), fun _ _ => rfl⟩
  refine ⟨?_, ?_, ?_, fun j hj => (c4 j hj).fr hz', fun k hk => (c5 k hk).fr hz', cb⟩
  · intro r j hl
    obtain ⟨d1, d2, d3⟩ := c1 r j hl
    exact ⟨d1, (hz _ (by rw [d2]; exact (cR_pos hl).2)).trans d2, d3⟩
  · obtain ⟨e1, e2, e3, e4, e5, e6, e7⟩ := c2
    refine ⟨e1, (hz _ (by omega)).trans e2, e3, (hz _ (by omega)).trans e4, e5, (hz _ (by omega)).trans e6, fun b hb => ?_⟩
    obtain ⟨f1, f2⟩ := e7 b hb
    exact ⟨f1, (hz _ (by omega)).trans f2⟩
  · intro b hb
    exact ⟨(c3 b hb).1.fr hz', (c3 b hb).2.fr hz'⟩
theorem xt_rl {q a : Nat} (hf : xt ρ0 h0 ρ h) (hq0 : h0.1 q = none) : xt ρ0 h0 (rl ρ q a) h := by
  intro p hp
  obtain ⟨f1, f2, f3⟩ := hf p hp
  exact ⟨f1, (if_neg (fun e => hp (by rw [e]; exact hq0))).trans f2, f3⟩
/-- a row of w numbers f is told at place a of rows j1 and j2 -/
def tbS (C : mS) (j1 j2 a : Nat) (w : Int32) (f : Nat → Int32) : mS := fun j i => if j = j1 ∧ i = a then w else if j = j2 ∧ 256 * a ≤ i ∧ i < 256 * a + 256 then f (i - 256 * a) else C j i
theorem tbS_row {j1 j2 a j : Nat} {w : Int32} {f : Nat → Int32} (h1 : j ≠ j1) (h2 : j ≠ j2) : tbS C j1 j2 a w f j = C j := by
  funext i
  simp [tbS, h1, h2]
theorem TB.cg {v : Value} {w : Int32} {f g : Nat → Int32} (hT : TB h ρ v w f) (hg : ∀ i, i < 256 → f i = g i) : TB h ρ v w g := by
  rcases hT with q | ⟨q, n, q1, q2, q3, q4, q5, q6⟩
  · exact Or.inl q
  · exact Or.inr ⟨q, n, q1, q2, q3, q4, q5, fun i hi => by rw [← hg i (by omega)]; exact q6 i hi⟩
theorem tbS_w {j1 j2 a b : Nat} {w : Int32} {f : Nat → Int32} (hj : j1 ≠ j2) : tbS C j1 j2 a w f j1 b = if b = a then w else C j1 b := by
  simp [tbS, hj]
theorem tbS_f {j1 j2 a b i : Nat} {w : Int32} {f : Nat → Int32} (hj : j1 ≠ j2) (hi : i < 256) : tbS C j1 j2 a w f j2 (256 * b + i) = if b = a then f i else C j2 (256 * b + i) := by
  unfold tbS
  rw [if_neg (fun q => hj q.1.symm)]
  by_cases e : b = a
  · subst e
    rw [if_pos ⟨rfl, by omega, by omega⟩, if_pos rfl, show 256 * b + i - 256 * b = i by omega]
  · rw [if_neg (by omega), if_neg e]
theorem co_t57 {a : Nat} {v : Value} {w : Int32} {f : Nat → Int32} (hc : co Γ h x L ρ sz C) (hf : xt ρ0 h0 ρ h) (ha : a < sz 1 0) (hT : TB h ρ v w f) : co Γ (jm_set h 1 14 (L 1 a) v) x L ρ sz (tbS C 57 58 a w f) ∧ xt ρ0 h0 ρ (jm_set h 1 14 (L 1 a) v) := by
  obtain ⟨c1, c2, c3, c4, c5, cb⟩ := hc
  have hrole : ∀ b, b < sz 1 0 → ρ (L 1 b) = 10 + b := fun b hb => (c1 3 b hb).2.1
  have hra := hrole a ha
  have hz : ∀ p, ρ p ≠ 10 + a → ∀ t' j, (jm_set h 1 14 (L 1 a) v).2 t' j p = h.2 t' j p := by
    intro p hp t' j
    show (if t' = 1 ∧ j = 14 ∧ p = L 1 a then v else h.2 t' j p) = _
    rw [if_neg]
    rintro ⟨-, -, rfl⟩
    exact hp hra
  have hz' : ∀ p, h.1 p ≠ none → ρ p = 0 → (jm_set h 1 14 (L 1 a) v).1 p = h.1 p ∧ ρ p = ρ p ∧ ∀ t' j, (jm_set h 1 14 (L 1 a) v).2 t' j p = h.2 t' j p := fun p _ h2 => ⟨rfl, rfl, hz p (by omega)⟩
  refine ⟨⟨?_, c2, ?_, ?_, ?_, cb⟩, ?_⟩
  · intro r i hl
    obtain ⟨d1, d2, d3⟩ := c1 r i hl
    refine ⟨d1, d2, ?_⟩
    have hr : r ≠ 57 ∧ r ≠ 58 ∧ (cT r = 1 → cJ r i ≠ 14) := by
      unfold cV at hl
      split at hl <;> first | exact hl.elim | simp [cT, cJ]
    rw [tbS_row hr.1 hr.2.1, ← d3]
    show (if cT r = 1 ∧ cJ r i = 14 ∧ cA x L r i = L 1 a then v else _) = _
    rw [if_neg (fun q => hr.2.2 q.1 q.2.1)]
  · intro b hb
    have e1 : (jm_set h 1 14 (L 1 a) v).2 1 16 (L 1 b) = h.2 1 16 (L 1 b) := by
      simp [jm_set]
    have h2 := (c3 b hb).2
    have hnew : TB (jm_set h 1 14 (L 1 a) v) ρ ((jm_set h 1 14 (L 1 a) v).2 1 14 (L 1 b)) (tbS C 57 58 a w f 57 b) (fun i => tbS C 57 58 a w f 58 (256 * b + i)) := by
      rw [tbS_w (by decide)]
      by_cases e : b = a
      · subst e
        rw [if_pos rfl, show (jm_set h 1 14 (L 1 b) v).2 1 14 (L 1 b) = v from if_pos ⟨rfl, rfl, rfl⟩]
        exact (hT.fr hz').cg (fun i hi => by rw [tbS_f (by decide) hi, if_pos rfl])
      · rw [if_neg e, hz (L 1 b) (by have := hrole b hb; omega)]
        exact ((c3 b hb).1.fr hz').cg (fun i hi => by rw [tbS_f (by decide) hi, if_neg e])
    rw [e1, tbS_row (j := 59) (by decide) (by decide), tbS_row (j := 66) (by decide) (by decide)]
    exact ⟨hnew, h2.fr hz'⟩
  · intro j hj
    have e : ρ (L 4 j) = 100 + j := (c1 53 j hj).2.1
    rw [hz (L 4 j) (by have := cb.1; omega), tbS_row (j := 55) (by decide) (by decide), tbS_row (j := 56) (by decide) (by decide)]
    exact (c4 j hj).fr hz'
  · intro k hk
    unfold LETC
    rw [tbS_row (j := 35) (by decide) (by decide), tbS_row (j := 36) (by decide) (by decide), tbS_row (j := 37) (by decide) (by decide), tbS_row (j := 38) (by decide) (by decide), tbS_row (j := 67) (by decide) (by decide), tbS_row (j := 68) (by decide) (by decide)]
    exact (c5 k hk).fr hz'
  · intro p hp
    obtain ⟨f1, f2, f3⟩ := hf p hp
    exact ⟨f1, f2, fun z t' j => (hz p (by rcases z with z | z <;> omega) t' j).trans (f3 z t' j)⟩
theorem co_t59 {a : Nat} {v : Value} {w : Int32} {f : Nat → Int32} (hc : co Γ h x L ρ sz C) (hf : xt ρ0 h0 ρ h) (ha : a < sz 1 0) (hT : TB h ρ v w f) : co Γ (jm_set h 1 16 (L 1 a) v) x L ρ sz (tbS C 59 66 a w f) ∧ xt ρ0 h0 ρ (jm_set h 1 16 (L 1 a) v) := by
  obtain ⟨c1, c2, c3, c4, c5, cb⟩ := hc
  have hrole : ∀ b, b < sz 1 0 → ρ (L 1 b) = 10 + b := fun b hb => (c1 3 b hb).2.1
  have hra := hrole a ha
  have hz : ∀ p, ρ p ≠ 10 + a → ∀ t' j, (jm_set h 1 16 (L 1 a) v).2 t' j p = h.2 t' j p := by
    intro p hp t' j
    show (if t' = 1 ∧ j = 16 ∧ p = L 1 a then v else h.2 t' j p) = _
    rw [if_neg]
    rintro ⟨-, -, rfl⟩
    exact hp hra
  have hz' : ∀ p, h.1 p ≠ none → ρ p = 0 → (jm_set h 1 16 (L 1 a) v).1 p = h.1 p ∧ ρ p = ρ p ∧ ∀ t' j, (jm_set h 1 16 (L 1 a) v).2 t' j p = h.2 t' j p := fun p _ h2 => ⟨rfl, rfl, hz p (by omega)⟩
  refine ⟨⟨?_, c2, ?_, ?_, ?_, cb⟩, ?_⟩
  · intro r i hl
    obtain ⟨d1, d2, d3⟩ := c1 r i hl
    refine ⟨d1, d2, ?_⟩
    have hr : r ≠ 59 ∧ r ≠ 66 ∧ (cT r = 1 → cJ r i ≠ 16) := by
      unfold cV at hl
      split at hl <;> first | exact hl.elim | simp [cT, cJ]
    rw [tbS_row hr.1 hr.2.1, ← d3]
    show (if cT r = 1 ∧ cJ r i = 16 ∧ cA x L r i = L 1 a then v else _) = _
    rw [if_neg (fun q => hr.2.2 q.1 q.2.1)]
  · intro b hb
    have e1 : (jm_set h 1 16 (L 1 a) v).2 1 14 (L 1 b) = h.2 1 14 (L 1 b) := by
      simp [jm_set]
    have h2 := (c3 b hb).1
    have hnew : TB (jm_set h 1 16 (L 1 a) v) ρ ((jm_set h 1 16 (L 1 a) v).2 1 16 (L 1 b)) (tbS C 59 66 a w f 59 b) (fun i => tbS C 59 66 a w f 66 (256 * b + i)) := by
      rw [tbS_w (by decide)]
      by_cases e : b = a
      · subst e
        rw [if_pos rfl, show (jm_set h 1 16 (L 1 b) v).2 1 16 (L 1 b) = v from if_pos ⟨rfl, rfl, rfl⟩]
        exact (hT.fr hz').cg (fun i hi => by rw [tbS_f (by decide) hi, if_pos rfl])
      · rw [if_neg e, hz (L 1 b) (by have := hrole b hb; omega)]
        exact ((c3 b hb).2.fr hz').cg (fun i hi => by rw [tbS_f (by decide) hi, if_neg e])
    rw [e1, tbS_row (j := 57) (by decide) (by decide), tbS_row (j := 58) (by decide) (by decide)]
    exact ⟨h2.fr hz', hnew⟩
  · intro j hj
    have e : ρ (L 4 j) = 100 + j := (c1 53 j hj).2.1
    rw [hz (L 4 j) (by have := cb.1; omega), tbS_row (j := 55) (by decide) (by decide), tbS_row (j := 56) (by decide) (by decide)]
    exact (c4 j hj).fr hz'
  · intro k hk
    unfold LETC
    rw [tbS_row (j := 35) (by decide) (by decide), tbS_row (j := 36) (by decide) (by decide), tbS_row (j := 37) (by decide) (by decide), tbS_row (j := 38) (by decide) (by decide), tbS_row (j := 67) (by decide) (by decide), tbS_row (j := 68) (by decide) (by decide)]
    exact (c5 k hk).fr hz'
  · intro p hp
    obtain ⟨f1, f2, f3⟩ := hf p hp
    exact ⟨f1, f2, fun z t' j => (hz p (by rcases z with z | z <;> omega) t' j).trans (f3 z t' j)⟩
theorem co_t55 {e : Nat} {v : Value} {w : Int32} {f : Nat → Int32} (hc : co Γ h x L ρ sz C) (hf : xt ρ0 h0 ρ h) (he : cV sz 53 e) (hT : TB h ρ v w f) : co Γ (jm_set h 3 2 (L 4 e) v) x L ρ sz (tbS C 55 56 e w f) ∧ xt ρ0 h0 ρ (jm_set h 3 2 (L 4 e) v) := by
  obtain ⟨c1, c2, c3, c4, c5, cb⟩ := hc
  have hrole : ∀ b, cV sz 53 b → ρ (L 4 b) = 100 + b := fun b hb => (c1 53 b hb).2.1
  have hra := hrole e he
  have hz : ∀ p, ρ p ≠ 100 + e → ∀ t' j, (jm_set h 3 2 (L 4 e) v).2 t' j p = h.2 t' j p := by
    intro p hp t' j
    show (if t' = 3 ∧ j = 2 ∧ p = L 4 e then v else h.2 t' j p) = _
    rw [if_neg]
    rintro ⟨-, -, rfl⟩
    exact hp hra
  have hz' : ∀ p, h.1 p ≠ none → ρ p = 0 → (jm_set h 3 2 (L 4 e) v).1 p = h.1 p ∧ ρ p = ρ p ∧ ∀ t' j, (jm_set h 3 2 (L 4 e) v).2 t' j p = h.2 t' j p := fun p _ h2 => ⟨rfl, rfl, hz p (by omega)⟩
  refine ⟨⟨?_, c2, ?_, ?_, ?_, cb⟩, ?_⟩
  · intro r i hl
    obtain ⟨d1, d2, d3⟩ := c1 r i hl
    refine ⟨d1, d2, ?_⟩
    have hr : r ≠ 55 ∧ r ≠ 56 ∧ (cT r = 3 → cJ r i ≠ 2) := by
      unfold cV at hl
      split at hl <;> first | exact hl.elim | simp [cT, cJ]
    rw [tbS_row hr.1 hr.2.1, ← d3]
    show (if cT r = 3 ∧ cJ r i = 2 ∧ cA x L r i = L 4 e then v else _) = _
    rw [if_neg (fun q => hr.2.2 q.1 q.2.1)]
  · intro b hb
    have e1 : ρ (L 1 b) = 10 + b := (c1 3 b hb).2.1
    have := cb.1
    rw [hz (L 1 b) (by omega), hz (L 1 b) (by omega), tbS_row (j := 57) (by decide) (by decide), tbS_row (j := 58) (by decide) (by decide), tbS_row (j := 59) (by decide) (by decide), tbS_row (j := 66) (by decide) (by decide)]
    exact ⟨(c3 b hb).1.fr hz', (c3 b hb).2.fr hz'⟩
  · intro b hb
    rw [tbS_w (by decide)]
    by_cases q : b = e
    · subst q
      rw [if_pos rfl, show (jm_set h 3 2 (L 4 b) v).2 3 2 (L 4 b) = v from if_pos ⟨rfl, rfl, rfl⟩]
      exact (hT.fr hz').cg (fun i hi => by rw [tbS_f (by decide) hi, if_pos rfl])
    · rw [if_neg q, hz (L 4 b) (by have := hrole b hb; omega)]
      exact ((c4 b hb).fr hz').cg (fun i hi => by rw [tbS_f (by decide) hi, if_neg q])
  · intro k hk
    unfold LETC
    rw [tbS_row (j := 35) (by decide) (by decide), tbS_row (j := 36) (by decide) (by decide), tbS_row (j := 37) (by decide) (by decide), tbS_row (j := 38) (by decide) (by decide), tbS_row (j := 67) (by decide) (by decide), tbS_row (j := 68) (by decide) (by decide)]
    exact (c5 k hk).fr hz'
  · intro p hp
    obtain ⟨f1, f2, f3⟩ := hf p hp
    exact ⟨f1, f2, fun z t' j => (hz p (by rcases z with z | z <;> omega) t' j).trans (f3 z t' j)⟩
/-- a letter is told at place k -/
def ltS (C : mS) (k : Nat) (a b c e w : Int32) (f : Nat → Int32) : mS := mu (mu (mu (mu (tbS C 67 68 k w f) 35 k a) 36 k b) 37 k c) 38 k e
theorem ltS_row {k j : Nat} {a b c e w : Int32} {f : Nat → Int32} (h : (j < 35 ∨ 38 < j) ∧ j ≠ 67 ∧ j ≠ 68) : ltS C k a b c e w f j = C j := by
  unfold ltS
  rw [mu_row (by omega), mu_row (by omega), mu_row (by omega), mu_row (by omega), tbS_row h.2.1 h.2.2]
theorem cV_77 {sz' : Nat → Nat → Nat} {r i : Nat} (h1 : sz' 1 = sz 1) (h4 : sz' 4 = sz 4) (h5 : sz' 5 = sz 5) (h6 : sz' 6 = sz 6) (hr : r ≠ 77) (h : cV sz' r i) : cV sz r i := by
  unfold cV at *
  rw [h1, h4, h5, h6] at h
  split at h <;> first | exact h | exact absurd rfl hr
theorem cA_77 {q k r i : Nat} : cA x (lu L 8 k q) r i = cA x L r i := by
  unfold cA
  split <;> rfl
theorem cE_77 {q k r i : Nat} {v : Int32} (hr : r ≠ 77) : cE Γ (lu L 8 k q) r i v = cE Γ L r i v := by
  unfold cE
  split <;> first | rfl | exact absurd rfl hr
theorem cV_n {r i : Nat} (hl : cV sz r i) : (r < 35 ∨ 38 < r) ∧ r ≠ 67 ∧ r ≠ 68 := by
  unfold cV at hl
  split at hl <;> first | exact hl.elim | decide
/-- a letter is laid at place k of the row of letters -/
theorem co_la {k q : Nat} {a b c e w : Int32} {f : Nat → Int32} (hc : co Γ h x L ρ sz C) (hf : xt ρ0 h0 ρ h) (hk : k ≤ sz 8 0) (hk20 : k < 20) (hL : LET h ρ q a b c e w f) :
    co Γ (jm_set h 100 k (L 0 2) (.ref q)) x (lu L 8 k q) ρ (lu sz 8 0 (if k < sz 8 0 then sz 8 0 else k + 1)) (ltS C k a b c e w f) ∧ xt ρ0 h0 ρ (jm_set h 100 k (L 0 2) (.ref q)) := by
  obtain ⟨c1, c2, c3, c4, c5, cb⟩ := hc
  have hra := c2.2.2.2.2.2.1
  have hz : ∀ p, ρ p ≠ 4 → ∀ t' j, (jm_set h 100 k (L 0 2) (.ref q)).2 t' j p = h.2 t' j p := by
    intro p hp t' j
    show (if t' = 100 ∧ j = k ∧ p = L 0 2 then Value.ref q else h.2 t' j p) = _
    rw [if_neg]
    rintro ⟨-, -, rfl⟩
    exact hp hra
  have hz' : ∀ p, h.1 p ≠ none → ρ p = 0 → (jm_set h 100 k (L 0 2) (.ref q)).1 p = h.1 p ∧ ρ p = ρ p ∧ ∀ t' j, (jm_set h 100 k (L 0 2) (.ref q)).2 t' j p = h.2 t' j p := fun p _ h2 => ⟨rfl, rfl, hz p (by omega)⟩
  refine ⟨⟨?_, c2, ?_, ?_, ?_, ?_⟩, ?_⟩
  · intro r i hl
    by_cases hr : r = 77
    · subst hr
      have hi : i < (if k < sz 8 0 then sz 8 0 else k + 1) := hl
      refine ⟨c2.2.2.2.2.1, hra, ?_⟩
      show (if (100 : Nat) = 100 ∧ i = k ∧ L 0 2 = L 0 2 then Value.ref q else h.2 100 i (L 0 2)) = .ref (if (8 : Nat) = 8 ∧ i = k then q else L 8 i)
      by_cases e : i = k
      · rw [if_pos ⟨rfl, e, rfl⟩, if_pos ⟨rfl, e⟩]
      · rw [if_neg (fun z => e z.2.1), if_neg (fun z => e z.2)]
        exact (c1 77 i (show i < sz 8 0 by split at hi <;> omega)).2.2
    · have hl' : cV sz r i := cV_77 (sz := sz) (sz' := lu sz 8 0 _) (by funext i; simp [lu]) (by funext i; simp [lu]) (by funext i; simp [lu]) (by funext i; simp [lu]) hr hl
      obtain ⟨d1, d2, d3⟩ := c1 r i hl'
      rw [cA_77, cE_77 hr, ltS_row (cV_n hl')]
      refine ⟨d1, d2, ?_⟩
      rw [← d3]
      apply hz
      rw [d2]
      unfold cV at hl'
      split at hl' <;> simp only [cR] <;> first | omega | exact absurd rfl hr | exact hl'.elim
  · intro b' hb
    have e1 : ρ (L 1 b') = 10 + b' := (c1 3 b' hb).2.1
    show TB _ ρ ((jm_set h 100 k (L 0 2) (.ref q)).2 1 14 (L 1 b')) _ _ ∧ TB _ ρ ((jm_set h 100 k (L 0 2) (.ref q)).2 1 16 (L 1 b')) _ _
    rw [hz (L 1 b') (by omega), hz (L 1 b') (by omega), ltS_row (j := 57) (by decide), ltS_row (j := 58) (by decide), ltS_row (j := 59) (by decide), ltS_row (j := 66) (by decide)]
    exact ⟨(c3 b' hb).1.fr hz', (c3 b' hb).2.fr hz'⟩
  · intro j hj
    have hj' : cV sz 53 j := hj
    have e1 : ρ (L 4 j) = 100 + j := (c1 53 j hj').2.1
    show TB _ ρ ((jm_set h 100 k (L 0 2) (.ref q)).2 3 2 (L 4 j)) _ _
    rw [hz (L 4 j) (by omega), ltS_row (j := 55) (by decide), ltS_row (j := 56) (by decide)]
    exact (c4 j hj').fr hz'
  · intro k' hk'
    have hi : k' < (if k < sz 8 0 then sz 8 0 else k + 1) := hk'
    by_cases e9 : k' = k
    · subst e9
      unfold LETC
      show LET _ ρ (if (8 : Nat) = 8 ∧ k' = k' then q else L 8 k') _ _ _ _ _ _
      rw [if_pos ⟨rfl, rfl⟩]
      have e1 : ltS C k' a b c e w f 35 k' = a := by simp [ltS, mu]
      have e2 : ltS C k' a b c e w f 36 k' = b := by simp [ltS, mu]
      have e3 : ltS C k' a b c e w f 37 k' = c := by simp [ltS, mu]
      have e4 : ltS C k' a b c e w f 38 k' = e := by simp [ltS, mu]
      have e5 : ltS C k' a b c e w f 67 k' = w := by simp [ltS, mu, tbS]
      rw [e1, e2, e3, e4, e5]
      obtain ⟨q1, q2, q3, q4, q5, q6, q7⟩ := hL.fr hz'
      refine ⟨q1, q2, q3, q4, q5, q6, q7.cg (fun i hi => ?_)⟩
      show f i = mu (mu (mu (mu (tbS C 67 68 k' w f) 35 k' a) 36 k' b) 37 k' c) 38 k' e 68 (256 * k' + i)
      rw [mu_row (by decide), mu_row (by decide), mu_row (by decide), mu_row (by decide), tbS_f (by decide) hi, if_pos rfl]
    · have hlt : k' < sz 8 0 := by split at hi <;> omega
      have hq := (c5 k' hlt).fr hz'
      unfold LETC at *
      show LET _ ρ (if (8 : Nat) = 8 ∧ k' = k then q else L 8 k') _ _ _ _ _ _
      rw [if_neg (fun z => e9 z.2)]
      have e1 : ltS C k a b c e w f 35 k' = C 35 k' := by simp [ltS, mu, tbS, e9]
      have e2 : ltS C k a b c e w f 36 k' = C 36 k' := by simp [ltS, mu, tbS, e9]
      have e3 : ltS C k a b c e w f 37 k' = C 37 k' := by simp [ltS, mu, tbS, e9]
      have e4 : ltS C k a b c e w f 38 k' = C 38 k' := by simp [ltS, mu, tbS, e9]
      have e5 : ltS C k a b c e w f 67 k' = C 67 k' := by simp [ltS, mu, tbS, e9]
      rw [e1, e2, e3, e4, e5]
      obtain ⟨q1, q2, q3, q4, q5, q6, q7⟩ := hq
      refine ⟨q1, q2, q3, q4, q5, q6, q7.cg (fun i hi => ?_)⟩
      show C 68 (256 * k' + i) = mu (mu (mu (mu (tbS C 67 68 k w f) 35 k a) 36 k b) 37 k c) 38 k e 68 (256 * k' + i)
      rw [mu_row (by decide), mu_row (by decide), mu_row (by decide), mu_row (by decide), tbS_f (by decide) hi, if_neg e9]
  · refine ⟨cb.1, cb.2.1, ?_, cb.2.2.2⟩
    show (if k < sz 8 0 then sz 8 0 else k + 1) ≤ 20
    have := cb.2.2.1
    split <;> omega
  · intro p hp
    obtain ⟨f1, f2, f3⟩ := hf p hp
    exact ⟨f1, f2, fun z t' j => (hz p (by rcases z with z | z <;> omega) t' j).trans (f3 z t' j)⟩
/-- fewer letters are told; and what lies behind them is written -/
theorem co_ls {m k : Nat} {v : Value} (hc : co Γ h x L ρ sz C) (hf : xt ρ0 h0 ρ h) (hm : m ≤ sz 8 0) (hk : m ≤ k) : co Γ (jm_set h 100 k (L 0 2) v) x L ρ (lu sz 8 0 m) C ∧ xt ρ0 h0 ρ (jm_set h 100 k (L 0 2) v) := by
  obtain ⟨c1, c2, c3, c4, c5, cb⟩ := hc
  have hra := c2.2.2.2.2.2.1
  have hz : ∀ p, ρ p ≠ 4 → ∀ t' j, (jm_set h 100 k (L 0 2) v).2 t' j p = h.2 t' j p := by
    intro p hp t' j
    show (if t' = 100 ∧ j = k ∧ p = L 0 2 then v else h.2 t' j p) = _
    rw [if_neg]
    rintro ⟨-, -, rfl⟩
    exact hp hra
  have hz' : ∀ p, h.1 p ≠ none → ρ p = 0 → (jm_set h 100 k (L 0 2) v).1 p = h.1 p ∧ ρ p = ρ p ∧ ∀ t' j, (jm_set h 100 k (L 0 2) v).2 t' j p = h.2 t' j p := fun p _ h2 => ⟨rfl, rfl, hz p (by omega)⟩
  refine ⟨⟨?_, c2, ?_, ?_, ?_, ?_⟩, ?_⟩
  · intro r i hl
    by_cases hr : r = 77
    · subst hr
      have hi : i < m := hl
      obtain ⟨d1, d2, d3⟩ := c1 77 i (show i < sz 8 0 by omega)
      refine ⟨d1, d2, ?_⟩
      rw [← d3]
      show (if (100 : Nat) = 100 ∧ i = k ∧ L 0 2 = L 0 2 then v else h.2 100 i (L 0 2)) = h.2 100 i (L 0 2)
      rw [if_neg (fun z => by have := z.2.1; omega)]
    · have hl' : cV sz r i := cV_77 (sz := sz) (sz' := lu sz 8 0 _) (by funext i; simp [lu]) (by funext i; simp [lu]) (by funext i; simp [lu]) (by funext i; simp [lu]) hr hl
      obtain ⟨d1, d2, d3⟩ := c1 r i hl'
      refine ⟨d1, d2, ?_⟩
      rw [← d3]
      apply hz
      rw [d2]
      unfold cV at hl'
      split at hl' <;> simp only [cR] <;> first | omega | exact absurd rfl hr | exact hl'.elim
  · intro b' hb
    have e1 : ρ (L 1 b') = 10 + b' := (c1 3 b' hb).2.1
    rw [hz (L 1 b') (by omega), hz (L 1 b') (by omega)]
    exact ⟨(c3 b' hb).1.fr hz', (c3 b' hb).2.fr hz'⟩
  · intro j hj
    have hj' : cV sz 53 j := hj
    have e1 : ρ (L 4 j) = 100 + j := (c1 53 j hj').2.1
    rw [hz (L 4 j) (by omega)]
    exact (c4 j hj').fr hz'
  · intro k' hk'
    have hi : k' < m := hk'
    exact (c5 k' (by omega)).fr hz'
  · refine ⟨cb.1, cb.2.1, ?_, cb.2.2.2⟩
    show m ≤ 20
    have := cb.2.2.1
    omega
  · intro p hp
    obtain ⟨f1, f2, f3⟩ := hf p hp
    exact ⟨f1, f2, fun z t' j => (hz p (by rcases z with z | z <;> omega) t' j).trans (f3 z t' j)⟩
end
