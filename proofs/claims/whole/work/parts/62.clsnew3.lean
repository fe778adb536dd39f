/-! THE CLASS: pairs are told; constructors with arrays. Written by wip/whole/gen/p62.py -/
section
variable {Γ : jm_G} {h h0 : jm_H} {x : Nat} {L : Nat → Nat → Nat} {ρ ρ0 : Nat → Nat} {sz : Nat → Nat → Nat} {C : mS}
/-- pair p is new -/
def nwQ (C : mS) (p : Nat) (lo hi : Int32) : mS := fun j i => if j = 62 ∧ i = p then lo else if j = 63 ∧ i = p then hi else if j = 64 ∧ 16 * p ≤ i ∧ i < 16 * p + 16 then 0 else C j i
theorem nwQ_row {p j : Nat} {lo hi : Int32} (h2 : j ≠ 62) (h3 : j ≠ 63) (h4 : j ≠ 64) : nwQ C p lo hi j = C j := by
  funext i
  simp [nwQ, h2, h3, h4]
theorem co_pr {q q2 p : Nat} {lo hi : Int32} (hc : co Γ h x L ρ sz C) (hf : xt ρ0 h0 ρ h) (hq0 : h0.1 q = none) (hq20 : h0.1 q2 = none) (h6 : ρ q = 6) (h62 : ρ q2 = 6) (k1 : h.1 q = some (4, 0)) (k2 : h.1 q2 = some (100, 16)) (g0 : h.2 4 0 q = .int lo) (g1 : h.2 4 1 q = .int hi) (g2 : h.2 4 2 q = .ref q2) (gz : ∀ i, i < 16 → h.2 100 i q2 = .int 0) (hp : sz 6 0 = p) (hp12 : p < 12) :
    co Γ (jm_set h 100 p (L 0 1) (.ref q)) x (lu (lu L 6 p q) 7 p q2) (rl (rl ρ q (50 + p)) q2 (70 + p)) (lu sz 6 0 (p + 1)) (nwQ C p lo hi) ∧ xt ρ0 h0 (rl (rl ρ q (50 + p)) q2 (70 + p)) (jm_set h 100 p (L 0 1) (.ref q)) := by
  have n12 : q ≠ q2 := fun e => by rw [e, k2] at k1; cases k1
  obtain ⟨c1, c2, c3, c4, c5, cb⟩ := co_rl (a := 70 + p) (co_rl (a := 50 + p) hc h6) ((rl_ne (Ne.symm n12)).trans h62)
  have hf' : xt ρ0 h0 (rl (rl ρ q (50 + p)) q2 (70 + p)) h := xt_rl (xt_rl hf hq0) hq20
  have e1 : rl (rl ρ q (50 + p)) q2 (70 + p) q = 50 + p := by rw [rl_ne n12, rl_eq]
  have e2 : rl (rl ρ q (50 + p)) q2 (70 + p) q2 = 70 + p := rl_eq
  generalize hρ : rl (rl ρ q (50 + p)) q2 (70 + p) = ρ' at *
  have hra := c2.2.2.2.1
  have hz : ∀ p', ρ' p' ≠ 3 → ∀ t' j, (jm_set h 100 p (L 0 1) (.ref q)).2 t' j p' = h.2 t' j p' := by
    intro p' hp' t' j
    show (if t' = 100 ∧ j = p ∧ p' = L 0 1 then Value.ref q else h.2 t' j p') = _
    rw [if_neg]
    rintro ⟨-, -, rfl⟩
    exact hp' hra
  have hz' : ∀ p', h.1 p' ≠ none → ρ' p' = 0 → (jm_set h 100 p (L 0 1) (.ref q)).1 p' = h.1 p' ∧ ρ' p' = ρ' p' ∧ ∀ t' j, (jm_set h 100 p (L 0 1) (.ref q)).2 t' j p' = h.2 t' j p' := fun p' _ h2 => ⟨rfl, rfl, hz p' (by omega)⟩
  have l6 : lu (lu L 6 p q) 7 p q2 6 p = q := lu_eq
  have l7 : lu (lu L 6 p q) 7 p q2 7 p = q2 := lu_eq
  have l6n : ∀ i, i ≠ p → lu (lu L 6 p q) 7 p q2 6 i = L 6 i := fun i hi => lu_ne hi
  have l7n : ∀ i, i ≠ p → lu (lu L 6 p q) 7 p q2 7 i = L 7 i := fun i hi => lu_ne (L := lu L 6 p q) hi
  have lk : ∀ g i, g ≠ 6 → g ≠ 7 → lu (lu L 6 p q) 7 p q2 g i = L g i := fun g i a b => by simp [lu, a, b]
  generalize hL : lu (lu L 6 p q) 7 p q2 = L' at *
  have hsz : lu sz 6 0 (p + 1) 6 0 = p + 1 := lu_eq
  have hB : cB (lu sz 6 0 (p + 1)) := ⟨cb.1, by rw [hsz]; omega, cb.2.2.1, cb.2.2.2⟩
  refine ⟨⟨?_, ?_, ?_, ?_, ?_, hB⟩, ?_⟩
  · intro r i hl
    unfold cV at hl
    split at hl
    · have hl0 : i = 0 := hl
      obtain ⟨d1, d2, d3⟩ := c1 1 i hl
      have d2' : ρ' x = 1 := d2
      exact ⟨d1, d2, (hz x (by omega) _ _).trans (d3.trans (by show Value.int (C 1 i) = .int (nwQ C p lo hi 1 i); rw [nwQ_row (by decide) (by decide) (by decide)]))⟩
    · have hl0 : i < sz 1 0 := hl
      obtain ⟨d1, d2, d3⟩ := c1 3 i hl
      have d2' : ρ' (L 1 i) = 10 + i := d2
      show h.1 (L' 1 i) = _ ∧ ρ' (L' 1 i) = _ ∧ (jm_set h 100 p (L 0 1) (.ref q)).2 (cT 3) (cJ 3 i) (L' 1 i) = _
      rw [lk 1 i (by decide) (by decide)]
      exact ⟨d1, d2, (hz (L 1 i) (by omega) _ _).trans (d3.trans (by show Value.int (C 3 i) = .int (nwQ C p lo hi 3 i); rw [nwQ_row (by decide) (by decide) (by decide)]))⟩
    · have hl0 : i < 4 * sz 1 0 := hl
      obtain ⟨d1, d2, d3⟩ := c1 4 i hl
      have d2' : ρ' (L 2 (i / 4)) = 20 + i / 4 := d2
      show h.1 (L' 2 (i / 4)) = _ ∧ ρ' (L' 2 (i / 4)) = _ ∧ (jm_set h 100 p (L 0 1) (.ref q)).2 (cT 4) (cJ 4 i) (L' 2 (i / 4)) = _
      rw [lk 2 (i / 4) (by decide) (by decide)]
      exact ⟨d1, d2, (hz (L 2 (i / 4)) (by omega) _ _).trans (d3.trans (by show Value.int (C 4 i) = .int (nwQ C p lo hi 4 i); rw [nwQ_row (by decide) (by decide) (by decide)]))⟩
    · have hl0 : i = 0 := hl
      obtain ⟨d1, d2, d3⟩ := c1 5 i hl
      have d2' : ρ' x = 1 := d2
      exact ⟨d1, d2, (hz x (by omega) _ _).trans (d3.trans (by show Value.int (C 5 i) = .int (nwQ C p lo hi 5 i); rw [nwQ_row (by decide) (by decide) (by decide)]))⟩
    · have hl0 : i < sz 1 0 := hl
      obtain ⟨d1, d2, d3⟩ := c1 9 i hl
      have d2' : ρ' (L 1 i) = 10 + i := d2
      show h.1 (L' 1 i) = _ ∧ ρ' (L' 1 i) = _ ∧ (jm_set h 100 p (L 0 1) (.ref q)).2 (cT 9) (cJ 9 i) (L' 1 i) = _
      rw [lk 1 i (by decide) (by decide)]
      exact ⟨d1, d2, (hz (L 1 i) (by omega) _ _).trans (d3.trans (by show Value.int (C 9 i) = .int (nwQ C p lo hi 9 i); rw [nwQ_row (by decide) (by decide) (by decide)]))⟩
    · have hl0 : i < sz 1 0 := hl
      obtain ⟨d1, d2, d3⟩ := c1 10 i hl
      have d2' : ρ' (L 1 i) = 10 + i := d2
      show h.1 (L' 1 i) = _ ∧ ρ' (L' 1 i) = _ ∧ (jm_set h 100 p (L 0 1) (.ref q)).2 (cT 10) (cJ 10 i) (L' 1 i) = _
      rw [lk 1 i (by decide) (by decide)]
      exact ⟨d1, d2, (hz (L 1 i) (by omega) _ _).trans (d3.trans (by show (if C 10 i = -1 then Value.null else .ref (L 5 (C 10 i).toNatClampNeg)) = (if nwQ C p lo hi 10 i = -1 then Value.null else .ref (L' 5 (nwQ C p lo hi 10 i).toNatClampNeg)); rw [nwQ_row (by decide) (by decide) (by decide), lk 5 _ (by decide) (by decide)]))⟩
    · have hl0 : i < 8 ∧ sz 5 i = 1 := hl
      obtain ⟨d1, d2, d3⟩ := c1 11 i hl
      have d2' : ρ' (L 5 i) = 40 + i := d2
      show h.1 (L' 5 i) = _ ∧ ρ' (L' 5 i) = _ ∧ (jm_set h 100 p (L 0 1) (.ref q)).2 (cT 11) (cJ 11 i) (L' 5 i) = _
      rw [lk 5 i (by decide) (by decide)]
      exact ⟨d1, d2, (hz (L 5 i) (by omega) _ _).trans (d3.trans (by show Value.ref (L 1 (C 11 i).toNatClampNeg) = .ref (L' 1 (nwQ C p lo hi 11 i).toNatClampNeg); rw [nwQ_row (by decide) (by decide) (by decide), lk 1 _ (by decide) (by decide)]))⟩
    · have hl0 : i < 8 ∧ sz 5 i = 1 := hl
      obtain ⟨d1, d2, d3⟩ := c1 12 i hl
      have d2' : ρ' (L 5 i) = 40 + i := d2
      show h.1 (L' 5 i) = _ ∧ ρ' (L' 5 i) = _ ∧ (jm_set h 100 p (L 0 1) (.ref q)).2 (cT 12) (cJ 12 i) (L' 5 i) = _
      rw [lk 5 i (by decide) (by decide)]
      exact ⟨d1, d2, (hz (L 5 i) (by omega) _ _).trans (d3.trans (by show Value.int (C 12 i) = .int (nwQ C p lo hi 12 i); rw [nwQ_row (by decide) (by decide) (by decide)]))⟩
    · have hl0 : i < sz 1 0 := hl
      obtain ⟨d1, d2, d3⟩ := c1 15 i hl
      have d2' : ρ' (L 1 i) = 10 + i := d2
      show h.1 (L' 1 i) = _ ∧ ρ' (L' 1 i) = _ ∧ (jm_set h 100 p (L 0 1) (.ref q)).2 (cT 15) (cJ 15 i) (L' 1 i) = _
      rw [lk 1 i (by decide) (by decide)]
      exact ⟨d1, d2, (hz (L 1 i) (by omega) _ _).trans (d3.trans (by show Value.int (C 15 i) = .int (nwQ C p lo hi 15 i); rw [nwQ_row (by decide) (by decide) (by decide)]))⟩
    · have hl0 : i < sz 1 0 := hl
      obtain ⟨d1, d2, d3⟩ := c1 16 i hl
      have d2' : ρ' (L 1 i) = 10 + i := d2
      show h.1 (L' 1 i) = _ ∧ ρ' (L' 1 i) = _ ∧ (jm_set h 100 p (L 0 1) (.ref q)).2 (cT 16) (cJ 16 i) (L' 1 i) = _
      rw [lk 1 i (by decide) (by decide)]
      exact ⟨d1, d2, (hz (L 1 i) (by omega) _ _).trans (d3.trans (by show Value.int (C 16 i) = .int (nwQ C p lo hi 16 i); rw [nwQ_row (by decide) (by decide) (by decide)]))⟩
    · have hl0 : i < sz 1 0 := hl
      obtain ⟨d1, d2, d3⟩ := c1 17 i hl
      have d2' : ρ' (L 1 i) = 10 + i := d2
      show h.1 (L' 1 i) = _ ∧ ρ' (L' 1 i) = _ ∧ (jm_set h 100 p (L 0 1) (.ref q)).2 (cT 17) (cJ 17 i) (L' 1 i) = _
      rw [lk 1 i (by decide) (by decide)]
      exact ⟨d1, d2, (hz (L 1 i) (by omega) _ _).trans (d3.trans (by show Value.int (C 17 i) = .int (nwQ C p lo hi 17 i); rw [nwQ_row (by decide) (by decide) (by decide)]))⟩
    · have hl0 : i < sz 1 0 := hl
      obtain ⟨d1, d2, d3⟩ := c1 18 i hl
      have d2' : ρ' (L 1 i) = 10 + i := d2
      show h.1 (L' 1 i) = _ ∧ ρ' (L' 1 i) = _ ∧ (jm_set h 100 p (L 0 1) (.ref q)).2 (cT 18) (cJ 18 i) (L' 1 i) = _
      rw [lk 1 i (by decide) (by decide)]
      exact ⟨d1, d2, (hz (L 1 i) (by omega) _ _).trans (d3.trans (by show Value.int (C 18 i) = .int (nwQ C p lo hi 18 i); rw [nwQ_row (by decide) (by decide) (by decide)]))⟩
    · have hl0 : i < sz 1 0 := hl
      obtain ⟨d1, d2, d3⟩ := c1 22 i hl
      have d2' : ρ' (L 1 i) = 10 + i := d2
      show h.1 (L' 1 i) = _ ∧ ρ' (L' 1 i) = _ ∧ (jm_set h 100 p (L 0 1) (.ref q)).2 (cT 22) (cJ 22 i) (L' 1 i) = _
      rw [lk 1 i (by decide) (by decide)]
      exact ⟨d1, d2, (hz (L 1 i) (by omega) _ _).trans (d3.trans (by show Value.int (C 22 i) = .int (nwQ C p lo hi 22 i); rw [nwQ_row (by decide) (by decide) (by decide)]))⟩
    · have hl0 : i < sz 1 0 := hl
      obtain ⟨d1, d2, d3⟩ := c1 23 i hl
      have d2' : ρ' (L 1 i) = 10 + i := d2
      show h.1 (L' 1 i) = _ ∧ ρ' (L' 1 i) = _ ∧ (jm_set h 100 p (L 0 1) (.ref q)).2 (cT 23) (cJ 23 i) (L' 1 i) = _
      rw [lk 1 i (by decide) (by decide)]
      exact ⟨d1, d2, (hz (L 1 i) (by omega) _ _).trans (d3.trans (by show Value.int (C 23 i) = .int (nwQ C p lo hi 23 i); rw [nwQ_row (by decide) (by decide) (by decide)]))⟩
    · have hl0 : i = 0 := hl
      obtain ⟨d1, d2, d3⟩ := c1 27 i hl
      have d2' : ρ' x = 1 := d2
      exact ⟨d1, d2, (hz x (by omega) _ _).trans (d3.trans (by show Value.int (C 27 i) = .int (nwQ C p lo hi 27 i); rw [nwQ_row (by decide) (by decide) (by decide)]))⟩
    · have hl0 : i < sz 1 0 := hl
      obtain ⟨d1, d2, d3⟩ := c1 28 i hl
      have d2' : ρ' (L 1 i) = 10 + i := d2
      show h.1 (L' 1 i) = _ ∧ ρ' (L' 1 i) = _ ∧ (jm_set h 100 p (L 0 1) (.ref q)).2 (cT 28) (cJ 28 i) (L' 1 i) = _
      rw [lk 1 i (by decide) (by decide)]
      exact ⟨d1, d2, (hz (L 1 i) (by omega) _ _).trans (d3.trans (by show Value.int (C 28 i) = .int (nwQ C p lo hi 28 i); rw [nwQ_row (by decide) (by decide) (by decide)]))⟩
    · have hl0 : i < 8 := hl
      obtain ⟨d1, d2, d3⟩ := c1 32 i hl
      have d2' : ρ' (L 0 3) = 5 := d2
      show h.1 (L' 0 3) = _ ∧ ρ' (L' 0 3) = _ ∧ (jm_set h 100 p (L 0 1) (.ref q)).2 (cT 32) (cJ 32 i) (L' 0 3) = _
      rw [lk 0 3 (by decide) (by decide)]
      exact ⟨d1, d2, (hz (L 0 3) (by omega) _ _).trans (d3.trans (by show Value.int (C 32 i) = .int (nwQ C p lo hi 32 i); rw [nwQ_row (by decide) (by decide) (by decide)]))⟩
    · have hl0 : i = 0 := hl
      obtain ⟨d1, d2, d3⟩ := c1 34 i hl
      have d2' : ρ' x = 1 := d2
      exact ⟨d1, d2, (hz x (by omega) _ _).trans (d3.trans (by show Value.int (C 34 i) = .int (nwQ C p lo hi 34 i); rw [nwQ_row (by decide) (by decide) (by decide)]))⟩
    · have hl0 : i < sz 1 0 := hl
      obtain ⟨d1, d2, d3⟩ := c1 50 i hl
      have d2' : ρ' (L 1 i) = 10 + i := d2
      show h.1 (L' 1 i) = _ ∧ ρ' (L' 1 i) = _ ∧ (jm_set h 100 p (L 0 1) (.ref q)).2 (cT 50) (cJ 50 i) (L' 1 i) = _
      rw [lk 1 i (by decide) (by decide)]
      exact ⟨d1, d2, (hz (L 1 i) (by omega) _ _).trans (d3.trans (by show Value.ref (jm_eA Γ (C 50 i).toNatClampNeg) = .ref (jm_eA Γ (nwQ C p lo hi 50 i).toNatClampNeg); rw [nwQ_row (by decide) (by decide) (by decide)]))⟩
    · have hl0 : i < sz 1 0 := hl
      obtain ⟨d1, d2, d3⟩ := c1 51 i hl
      have d2' : ρ' (L 1 i) = 10 + i := d2
      show h.1 (L' 1 i) = _ ∧ ρ' (L' 1 i) = _ ∧ (jm_set h 100 p (L 0 1) (.ref q)).2 (cT 51) (cJ 51 i) (L' 1 i) = _
      rw [lk 1 i (by decide) (by decide)]
      exact ⟨d1, d2, (hz (L 1 i) (by omega) _ _).trans (d3.trans (by show Value.int (C 51 i) = .int (nwQ C p lo hi 51 i); rw [nwQ_row (by decide) (by decide) (by decide)]))⟩
    · have hl0 : i < sz 1 0 := hl
      obtain ⟨d1, d2, d3⟩ := c1 52 i hl
      have d2' : ρ' (L 1 i) = 10 + i := d2
      show h.1 (L' 1 i) = _ ∧ ρ' (L' 1 i) = _ ∧ (jm_set h 100 p (L 0 1) (.ref q)).2 (cT 52) (cJ 52 i) (L' 1 i) = _
      rw [lk 1 i (by decide) (by decide)]
      exact ⟨d1, d2, (hz (L 1 i) (by omega) _ _).trans (d3.trans (by show Value.int (C 52 i) = .int (nwQ C p lo hi 52 i); rw [nwQ_row (by decide) (by decide) (by decide)]))⟩
    · have hl0 : i / 8 < sz 1 0 ∧ i % 8 < sz 4 (i / 8) := hl
      obtain ⟨d1, d2, d3⟩ := c1 53 i hl
      have d2' : ρ' (L 4 i) = 100 + i := d2
      show h.1 (L' 4 i) = _ ∧ ρ' (L' 4 i) = _ ∧ (jm_set h 100 p (L 0 1) (.ref q)).2 (cT 53) (cJ 53 i) (L' 4 i) = _
      rw [lk 4 i (by decide) (by decide)]
      exact ⟨d1, d2, (hz (L 4 i) (by omega) _ _).trans (d3.trans (by show Value.ref (L 1 (C 53 i).toNatClampNeg) = .ref (L' 1 (nwQ C p lo hi 53 i).toNatClampNeg); rw [nwQ_row (by decide) (by decide) (by decide), lk 1 _ (by decide) (by decide)]))⟩
    · have hl0 : i / 8 < sz 1 0 ∧ i % 8 < sz 4 (i / 8) := hl
      obtain ⟨d1, d2, d3⟩ := c1 54 i hl
      have d2' : ρ' (L 4 i) = 100 + i := d2
      show h.1 (L' 4 i) = _ ∧ ρ' (L' 4 i) = _ ∧ (jm_set h 100 p (L 0 1) (.ref q)).2 (cT 54) (cJ 54 i) (L' 4 i) = _
      rw [lk 4 i (by decide) (by decide)]
      exact ⟨d1, d2, (hz (L 4 i) (by omega) _ _).trans (d3.trans (by show Value.int (C 54 i) = .int (nwQ C p lo hi 54 i); rw [nwQ_row (by decide) (by decide) (by decide)]))⟩
    · have hl0 : i = 0 := hl
      obtain ⟨d1, d2, d3⟩ := c1 60 i hl
      have d2' : ρ' x = 1 := d2
      exact ⟨d1, d2, (hz x (by omega) _ _).trans (d3.trans (by show Value.int (C 60 i) = .int (nwQ C p lo hi 60 i); rw [nwQ_row (by decide) (by decide) (by decide)]))⟩
    · rw [hsz] at hl
      by_cases e : i = p
      · subst e
        show h.1 (L' 6 i) = _ ∧ ρ' (L' 6 i) = _ ∧ (jm_set h 100 i (L 0 1) (.ref q)).2 4 0 (L' 6 i) = _
        rw [l6]
        exact ⟨k1, e1, (hz q (by omega) 4 0).trans (by show h.2 4 0 q = .int (nwQ C i lo hi 62 i); rw [g0]; simp [nwQ])⟩
      · obtain ⟨d1, d2, d3⟩ := c1 62 i (show i < sz 6 0 by omega)
        have d2' : ρ' (L 6 i) = 50 + i := d2
        show h.1 (L' 6 i) = _ ∧ ρ' (L' 6 i) = _ ∧ (jm_set h 100 p (L 0 1) (.ref q)).2 4 0 (L' 6 i) = _
        rw [l6n i e]
        exact ⟨d1, d2, (hz (L 6 i) (by omega) 4 0).trans (d3.trans (by show Value.int (C 62 i) = .int (nwQ C p lo hi 62 i); simp [nwQ, e]))⟩
    · rw [hsz] at hl
      by_cases e : i = p
      · subst e
        show h.1 (L' 6 i) = _ ∧ ρ' (L' 6 i) = _ ∧ (jm_set h 100 i (L 0 1) (.ref q)).2 4 1 (L' 6 i) = _
        rw [l6]
        exact ⟨k1, e1, (hz q (by omega) 4 1).trans (by show h.2 4 1 q = .int (nwQ C i lo hi 63 i); rw [g1]; simp [nwQ])⟩
      · obtain ⟨d1, d2, d3⟩ := c1 63 i (show i < sz 6 0 by omega)
        have d2' : ρ' (L 6 i) = 50 + i := d2
        show h.1 (L' 6 i) = _ ∧ ρ' (L' 6 i) = _ ∧ (jm_set h 100 p (L 0 1) (.ref q)).2 4 1 (L' 6 i) = _
        rw [l6n i e]
        exact ⟨d1, d2, (hz (L 6 i) (by omega) 4 1).trans (d3.trans (by show Value.int (C 63 i) = .int (nwQ C p lo hi 63 i); simp [nwQ, e]))⟩
    · rw [hsz] at hl
      by_cases e : i / 16 = p
      · show h.1 (L' 7 (i / 16)) = _ ∧ ρ' (L' 7 (i / 16)) = 70 + i / 16 ∧ (jm_set h 100 p (L 0 1) (.ref q)).2 100 (i % 16) (L' 7 (i / 16)) = .int (nwQ C p lo hi 64 i)
        rw [e, l7]
        refine ⟨k2, e2, (hz q2 (by omega) 100 (i % 16)).trans ?_⟩
        rw [gz _ (by omega)]
        unfold nwQ
        rw [if_neg (fun z => by cases z.1), if_neg (fun z => by cases z.1), if_pos ⟨rfl, by omega, by omega⟩]
      · obtain ⟨d1, d2, d3⟩ := c1 64 i (show i < 16 * sz 6 0 by omega)
        have d2' : ρ' (L 7 (i / 16)) = 70 + i / 16 := d2
        show h.1 (L' 7 (i / 16)) = _ ∧ ρ' (L' 7 (i / 16)) = 70 + i / 16 ∧ (jm_set h 100 p (L 0 1) (.ref q)).2 100 (i % 16) (L' 7 (i / 16)) = .int (nwQ C p lo hi 64 i)
        rw [l7n _ e]
        refine ⟨d1, d2, (hz (L 7 (i / 16)) (by omega) 100 (i % 16)).trans (d3.trans ?_)⟩
        show Value.int (C 64 i) = .int (nwQ C p lo hi 64 i)
        unfold nwQ
        rw [if_neg (fun z => by cases z.1), if_neg (fun z => by cases z.1), if_neg (by omega)]
    · have hl0 : i < 8 ∧ sz 5 i = 1 := hl
      obtain ⟨d1, d2, d3⟩ := c1 65 i hl
      have d2' : ρ' (L 5 i) = 40 + i := d2
      show h.1 (L' 5 i) = _ ∧ ρ' (L' 5 i) = _ ∧ (jm_set h 100 p (L 0 1) (.ref q)).2 (cT 65) (cJ 65 i) (L' 5 i) = _
      rw [lk 5 i (by decide) (by decide)]
      exact ⟨d1, d2, (hz (L 5 i) (by omega) _ _).trans (d3.trans (by show Value.int (C 65 i) = .int (nwQ C p lo hi 65 i); rw [nwQ_row (by decide) (by decide) (by decide)]))⟩
    · have hl0 : i < sz 1 0 := hl
      obtain ⟨d1, d2, d3⟩ := c1 70 i hl
      have d2' : ρ' (L 0 0) = 2 := d2
      show h.1 (L' 0 0) = _ ∧ ρ' (L' 0 0) = _ ∧ (jm_set h 100 p (L 0 1) (.ref q)).2 (cT 70) (cJ 70 i) (L' 0 0) = _
      rw [lk 0 0 (by decide) (by decide)]
      exact ⟨d1, d2, (hz (L 0 0) (by omega) _ _).trans (d3.trans (by show Value.ref (L 1 i) = .ref (L' 1 i); rw [lk 1 i (by decide) (by decide)]))⟩
    · have hl0 : i < sz 1 0 := hl
      obtain ⟨d1, d2, d3⟩ := c1 71 i hl
      have d2' : ρ' (L 1 i) = 10 + i := d2
      show h.1 (L' 1 i) = _ ∧ ρ' (L' 1 i) = _ ∧ (jm_set h 100 p (L 0 1) (.ref q)).2 (cT 71) (cJ 71 i) (L' 1 i) = _
      rw [lk 1 i (by decide) (by decide)]
      exact ⟨d1, d2, (hz (L 1 i) (by omega) _ _).trans (d3.trans (by show Value.int (nI i) = .int (nI i); rfl))⟩
    · have hl0 : i < sz 1 0 := hl
      obtain ⟨d1, d2, d3⟩ := c1 72 i hl
      have d2' : ρ' (L 1 i) = 10 + i := d2
      show h.1 (L' 1 i) = _ ∧ ρ' (L' 1 i) = _ ∧ (jm_set h 100 p (L 0 1) (.ref q)).2 (cT 72) (cJ 72 i) (L' 1 i) = _
      rw [lk 1 i (by decide) (by decide)]
      exact ⟨d1, d2, (hz (L 1 i) (by omega) _ _).trans (d3.trans (by show Value.ref (L 2 i) = .ref (L' 2 i); rw [lk 2 i (by decide) (by decide)]))⟩
    · have hl0 : i < sz 1 0 := hl
      obtain ⟨d1, d2, d3⟩ := c1 73 i hl
      have d2' : ρ' (L 1 i) = 10 + i := d2
      show h.1 (L' 1 i) = _ ∧ ρ' (L' 1 i) = _ ∧ (jm_set h 100 p (L 0 1) (.ref q)).2 (cT 73) (cJ 73 i) (L' 1 i) = _
      rw [lk 1 i (by decide) (by decide)]
      exact ⟨d1, d2, (hz (L 1 i) (by omega) _ _).trans (d3.trans (by show Value.ref (L 3 i) = .ref (L' 3 i); rw [lk 3 i (by decide) (by decide)]))⟩
    · have hl0 : i / 8 < sz 1 0 ∧ i % 8 < sz 4 (i / 8) := hl
      obtain ⟨d1, d2, d3⟩ := c1 74 i hl
      have d2' : ρ' (L 3 (i / 8)) = 30 + i / 8 := d2
      show h.1 (L' 3 (i / 8)) = _ ∧ ρ' (L' 3 (i / 8)) = _ ∧ (jm_set h 100 p (L 0 1) (.ref q)).2 (cT 74) (cJ 74 i) (L' 3 (i / 8)) = _
      rw [lk 3 (i / 8) (by decide) (by decide)]
      exact ⟨d1, d2, (hz (L 3 (i / 8)) (by omega) _ _).trans (d3.trans (by show Value.ref (L 4 i) = .ref (L' 4 i); rw [lk 4 i (by decide) (by decide)]))⟩
    · rw [hsz] at hl
      by_cases e : i = p
      · subst e
        refine ⟨(congrArg h.1 (lk 0 1 (by decide) (by decide))).trans c2.2.2.1, (congrArg ρ' (lk 0 1 (by decide) (by decide))).trans hra, ?_⟩
        show (if (100 : Nat) = 100 ∧ i = i ∧ L' 0 1 = L 0 1 then Value.ref q else _) = .ref (L' 6 i)
        rw [if_pos ⟨rfl, rfl, lk 0 1 (by decide) (by decide)⟩, l6]
      · obtain ⟨d1, d2, d3⟩ := c1 75 i (show i < sz 6 0 by omega)
        refine ⟨(congrArg h.1 (lk 0 1 (by decide) (by decide))).trans d1, (congrArg ρ' (lk 0 1 (by decide) (by decide))).trans d2, ?_⟩
        show (if (100 : Nat) = 100 ∧ i = p ∧ L' 0 1 = L 0 1 then Value.ref q else h.2 100 i (L' 0 1)) = .ref (L' 6 i)
        rw [if_neg (fun z => e z.2.1), l6n i e, lk 0 1 (by decide) (by decide)]
        exact d3
    · rw [hsz] at hl
      by_cases e : i = p
      · subst e
        show h.1 (L' 6 i) = _ ∧ ρ' (L' 6 i) = _ ∧ (jm_set h 100 i (L 0 1) (.ref q)).2 4 2 (L' 6 i) = _
        rw [l6]
        exact ⟨k1, e1, (hz q (by omega) 4 2).trans (by show h.2 4 2 q = .ref (L' 7 i); rw [g2, l7])⟩
      · obtain ⟨d1, d2, d3⟩ := c1 76 i (show i < sz 6 0 by omega)
        have d2' : ρ' (L 6 i) = 50 + i := d2
        show h.1 (L' 6 i) = _ ∧ ρ' (L' 6 i) = _ ∧ (jm_set h 100 p (L 0 1) (.ref q)).2 4 2 (L' 6 i) = _
        rw [l6n i e]
        exact ⟨d1, d2, (hz (L 6 i) (by omega) 4 2).trans (d3.trans (by show Value.ref (L 7 i) = .ref (L' 7 i); rw [l7n i e]))⟩
    · have hl0 : i < sz 8 0 := hl
      obtain ⟨d1, d2, d3⟩ := c1 77 i hl
      have d2' : ρ' (L 0 2) = 4 := d2
      show h.1 (L' 0 2) = _ ∧ ρ' (L' 0 2) = _ ∧ (jm_set h 100 p (L 0 1) (.ref q)).2 (cT 77) (cJ 77 i) (L' 0 2) = _
      rw [lk 0 2 (by decide) (by decide)]
      exact ⟨d1, d2, (hz (L 0 2) (by omega) _ _).trans (d3.trans (by show Value.ref (L 8 i) = .ref (L' 8 i); rw [lk 8 i (by decide) (by decide)]))⟩
    · have hl0 : i = 0 := hl
      obtain ⟨d1, d2, d3⟩ := c1 78 i hl
      have d2' : ρ' x = 1 := d2
      exact ⟨d1, d2, (hz x (by omega) _ _).trans (d3.trans (by show Value.ref (L 0 0) = .ref (L' 0 0); rw [lk 0 0 (by decide) (by decide)]))⟩
    · have hl0 : i = 0 := hl
      obtain ⟨d1, d2, d3⟩ := c1 79 i hl
      have d2' : ρ' x = 1 := d2
      exact ⟨d1, d2, (hz x (by omega) _ _).trans (d3.trans (by show Value.ref (L 0 1) = .ref (L' 0 1); rw [lk 0 1 (by decide) (by decide)]))⟩
    · have hl0 : i = 0 := hl
      obtain ⟨d1, d2, d3⟩ := c1 80 i hl
      have d2' : ρ' x = 1 := d2
      exact ⟨d1, d2, (hz x (by omega) _ _).trans (d3.trans (by show Value.ref (L 0 2) = .ref (L' 0 2); rw [lk 0 2 (by decide) (by decide)]))⟩
    · have hl0 : i = 0 := hl
      obtain ⟨d1, d2, d3⟩ := c1 81 i hl
      have d2' : ρ' x = 1 := d2
      exact ⟨d1, d2, (hz x (by omega) _ _).trans (d3.trans (by show Value.ref (L 0 3) = .ref (L' 0 3); rw [lk 0 3 (by decide) (by decide)]))⟩
    · exact hl.elim
  · obtain ⟨a1, a2, a3, a4, a5, a6, a7⟩ := c2
    rw [lk 0 0 (by decide) (by decide), lk 0 1 (by decide) (by decide), lk 0 2 (by decide) (by decide)]
    refine ⟨a1, a2, a3, a4, a5, a6, fun a ha => ?_⟩
    rw [lk 3 a (by decide) (by decide)]
    exact a7 a ha
  · intro a ha
    have ha' : a < sz 1 0 := ha
    have e9 : ρ' (L 1 a) = 10 + a := (c1 3 a ha').2.1
    rw [lk 1 a (by decide) (by decide), hz (L 1 a) (by omega), hz (L 1 a) (by omega), nwQ_row (j := 57) (by decide) (by decide) (by decide), nwQ_row (j := 58) (by decide) (by decide) (by decide), nwQ_row (j := 59) (by decide) (by decide) (by decide), nwQ_row (j := 66) (by decide) (by decide) (by decide)]
    exact ⟨(c3 a ha').1.fr hz', (c3 a ha').2.fr hz'⟩
  · intro j hj
    have hj' : cV sz 53 j := hj
    have e9 : ρ' (L 4 j) = 100 + j := (c1 53 j hj').2.1
    rw [lk 4 j (by decide) (by decide), hz (L 4 j) (by omega), nwQ_row (j := 55) (by decide) (by decide) (by decide), nwQ_row (j := 56) (by decide) (by decide) (by decide)]
    exact (c4 j hj').fr hz'
  · intro k hk
    have hk' : k < sz 8 0 := hk
    unfold LETC
    rw [lk 8 k (by decide) (by decide), nwQ_row (j := 35) (by decide) (by decide) (by decide), nwQ_row (j := 36) (by decide) (by decide) (by decide), nwQ_row (j := 37) (by decide) (by decide) (by decide), nwQ_row (j := 38) (by decide) (by decide) (by decide), nwQ_row (j := 67) (by decide) (by decide) (by decide), nwQ_row (j := 68) (by decide) (by decide) (by decide)]
    exact (c5 k hk').fr hz'
  · intro p' hp'
    obtain ⟨f1', f2', f3'⟩ := hf' p' hp'
    exact ⟨f1', f2', fun z t' j => (hz p' (by rcases z with z | z <;> omega) t' j).trans (f3' z t' j)⟩
end
section
variable {Γ : jm_G} {d q : Nat} {h : jm_H}
theorem kq_new {q2 : Nat} {k kn : Nat × Nat} {dv : Nat → Value} (hq : h.1 q = some k) (h2 : h.1 q2 = none) : (jm_new h q2 kn dv).1 q = some k := by
  show (if q = q2 then some kn else h.1 q) = _
  rw [if_neg (fun e => by rw [e, h2] at hq; cases hq)]
  exact hq
theorem k_Q_init {lo hi : Int32} (hd : 1 ≤ d) (hq : h.1 q = some (4, 0)) : jm_M Γ m_Q_init d [.ref q, .int lo, .int hi] h 1 16 (fun oc h' => oc = .inl none ∧ ∃ q2, h.1 q2 = none ∧ h' = jm_set (jm_set (jm_set (jm_new h q2 (100, 16) (fun _ => .int 0)) 4 2 q (.ref q2)) 4 0 q (.int lo)) 4 1 q (.int hi)) := by
  refine jm_entry (by decide +kernel) (List.forall_mem_cons.mpr ⟨rfl, List.forall_mem_cons.mpr ⟨rfl, List.forall_mem_cons.mpr ⟨rfl, fun _ h => nomatch h⟩⟩⟩) (Nat.le_of_ble_eq_true rfl) ?_
  show jm_W _ _ _ _ _ _ 0 [some (.ref q), some (.int lo), some (.int hi)] [] _
  first | refine jm_aload_n d_Q_init_0 rfl ?_ | refine jm_aload_nN d_Q_init_0 rfl ?_
  refine jm_objInit d_Q_init_1 l_Q_3 iw_obj cw_obj (by omega) (Nat.le_of_ble_eq_true rfl) ?_
  first | refine jm_aload_n d_Q_init_4 rfl ?_ | refine jm_aload_nN d_Q_init_4 rfl ?_
  refine jm_bipushL (v := 16) d_Q_init_5 (by decide) ?_
  refine jm_newarray 0 d_Q_init_7 (by decide) ac_int rfl (fun U cA => va_nm_int) (by decide) (by decide) (by omega) (by decide) (fun q2 hq2 => ?_)
  refine jm_putF d_Q_init_9 f_Q_9 rfl (by show (if q = q2 then _ else h.1 q) = _; rw [if_neg (fun e => by rw [e, hq2] at hq; cases hq)]; exact hq) rfl rfl ?_
  first | refine jm_aload_n d_Q_init_12 rfl ?_ | refine jm_aload_nN d_Q_init_12 rfl ?_
  refine jm_iload_n d_Q_init_13 rfl ?_
  refine jm_putF d_Q_init_14 f_Q_15 rfl (by show (if q = q2 then _ else h.1 q) = _; rw [if_neg (fun e => by rw [e, hq2] at hq; cases hq)]; exact hq) rfl rfl ?_
  first | refine jm_aload_n d_Q_init_17 rfl ?_ | refine jm_aload_nN d_Q_init_17 rfl ?_
  refine jm_iload_n d_Q_init_18 rfl ?_
  refine jm_putF d_Q_init_19 f_Q_19 rfl (by show (if q = q2 then _ else h.1 q) = _; rw [if_neg (fun e => by rw [e, hq2] at hq; cases hq)]; exact hq) rfl rfl ?_
  exact jm_vret d_Q_init_22 rfl ⟨rfl, q2, hq2, rfl⟩
theorem k_A_init {a z : Int32} (hd : 1 ≤ d) (hq : h.1 q = some (1, 0)) : jm_M Γ m_A_init d [.ref q, .int a, .int z] h 2 11 (fun oc h' => oc = .inl none ∧ ∃ q2 q3, h.1 q2 = none ∧ h.1 q3 = none ∧ q2 ≠ q3 ∧ h' = jm_set (jm_set (jm_set (jm_set (jm_set (jm_set (jm_new (jm_set (jm_new h q2 (100, 4) (fun _ => .int 0)) 1 2 q (.ref q2)) q3 (106, 7) (fun _ => .null)) 1 3 q (.ref q3)) 1 7 q (.ref (jm_eA Γ 0))) 1 10 q (.int (-1))) 1 11 q (.int (-1))) 1 0 q (.int a)) 1 1 q (.int z)) := by
  refine jm_entry (by decide +kernel) (List.forall_mem_cons.mpr ⟨rfl, List.forall_mem_cons.mpr ⟨rfl, List.forall_mem_cons.mpr ⟨rfl, fun _ h => nomatch h⟩⟩⟩) (Nat.le_of_ble_eq_true rfl) ?_
  show jm_W _ _ _ _ _ _ 0 [some (.ref q), some (.int a), some (.int z)] [] _
  first | refine jm_aload_n d_A_init_0 rfl ?_ | refine jm_aload_nN d_A_init_0 rfl ?_
  refine jm_objInit d_A_init_1 l_A_3 iw_obj cw_obj (by omega) (Nat.le_of_ble_eq_true rfl) ?_
  first | refine jm_aload_n d_A_init_4 rfl ?_ | refine jm_aload_nN d_A_init_4 rfl ?_
  refine jm_iconstL (v := 4) d_A_init_5 (by decide) ?_
  refine jm_newarray 0 d_A_init_6 (by decide) ac_int rfl (fun U cA => va_nm_int) (by decide) (by decide) (by omega) (by decide) (fun q2 hq2 => ?_)
  have kp2 := kq_new (kn := (100, 4)) (dv := fun _ => .int 0) hq hq2
  refine jm_putF d_A_init_8 f_A_9 rfl kp2 rfl rfl ?_
  first | refine jm_aload_n d_A_init_11 rfl ?_ | refine jm_aload_nN d_A_init_11 rfl ?_
  refine jm_bipushL (v := 7) d_A_init_12 (by decide) ?_
  refine jm_anewarray 6 d_A_init_14 (by decide) rfl c_A_15 ao_Child (by decide) (by decide) (by omega) (by decide) (fun q3 hq3 => ?_)
  have hq32 : q2 ≠ q3 := fun e => by
    rw [← e] at hq3
    have : (if q2 = q2 then some ((100 : Nat), (4 : Nat)) else h.1 q2) = none := hq3
    rw [if_pos rfl] at this
    cases this
  have hq30 : h.1 q3 = none := by
    have : (if q3 = q2 then some ((100 : Nat), (4 : Nat)) else h.1 q3) = none := hq3
    rw [if_neg (Ne.symm hq32)] at this
    exact this
  have kp3 := kq_new (h := jm_set (jm_new h q2 (100, 4) (fun _ => .int 0)) 1 2 q (.ref q2)) (kn := (106, 7)) (dv := fun _ => .null) kp2 hq3
  refine jm_putF d_A_init_17 f_A_17 rfl kp3 rfl rfl ?_
  first | refine jm_aload_n d_A_init_20 rfl ?_ | refine jm_aload_nN d_A_init_20 rfl ?_
  refine jm_getE d_A_init_21 (by decide) f_A_21 ?_
  refine jm_putf d_A_init_24 f_A_27 kp3 rfl rfl ?_
  first | refine jm_aload_n d_A_init_27 rfl ?_ | refine jm_aload_nN d_A_init_27 rfl ?_
  refine jm_iconstL (v := (-1)) d_A_init_28 (by decide) ?_
  refine jm_putf d_A_init_29 f_A_30 kp3 rfl rfl ?_
  first | refine jm_aload_n d_A_init_32 rfl ?_ | refine jm_aload_nN d_A_init_32 rfl ?_
  refine jm_iconstL (v := (-1)) d_A_init_33 (by decide) ?_
  refine jm_putf d_A_init_34 f_A_34 kp3 rfl rfl ?_
  first | refine jm_aload_n d_A_init_37 rfl ?_ | refine jm_aload_nN d_A_init_37 rfl ?_
  refine jm_iload_n d_A_init_38 rfl ?_
  refine jm_putF d_A_init_39 f_A_37 rfl kp3 rfl rfl ?_
  first | refine jm_aload_n d_A_init_42 rfl ?_ | refine jm_aload_nN d_A_init_42 rfl ?_
  refine jm_iload_n d_A_init_43 rfl ?_
  refine jm_putF d_A_init_44 f_A_40 rfl kp3 rfl rfl ?_
  exact jm_vret d_A_init_47 rfl ⟨rfl, q2, q3, hq2, hq30, hq32, rfl⟩
theorem k_B_init (hd : 1 ≤ d) (hq : h.1 q = some (0, 0)) : jm_M Γ m_B_init d [.ref q] h 4 48 (fun oc h' => oc = .inl none ∧ ∃ q0 q1 q2 q3, h.1 q0 = none ∧ (jm_set (jm_new h q0 (103, 8) (fun _ => .null)) 0 0 q (.ref q0)).1 q1 = none ∧ (jm_set (jm_new (jm_set (jm_new h q0 (103, 8) (fun _ => .null)) 0 0 q (.ref q0)) q1 (104, 12) (fun _ => .null)) 0 2 q (.ref q1)).1 q2 = none ∧ (jm_set (jm_new (jm_set (jm_new (jm_set (jm_new h q0 (103, 8) (fun _ => .null)) 0 0 q (.ref q0)) q1 (104, 12) (fun _ => .null)) 0 2 q (.ref q1)) q2 (105, 20) (fun _ => .null)) 0 4 q (.ref q2)).1 q3 = none ∧ h' = jm_set (jm_set (jm_new (jm_set (jm_new (jm_set (jm_new (jm_set (jm_new h q0 (103, 8) (fun _ => .null)) 0 0 q (.ref q0)) q1 (104, 12) (fun _ => .null)) 0 2 q (.ref q1)) q2 (105, 20) (fun _ => .null)) 0 4 q (.ref q2)) q3 (100, 8) (fun _ => .int 0)) 0 6 q (.ref q3)) 0 7 q (.int 1)) := by
  refine jm_entry (by decide +kernel) (List.forall_mem_cons.mpr ⟨rfl, fun _ h => nomatch h⟩) (Nat.le_of_ble_eq_true rfl) ?_
  show jm_W _ _ _ _ _ _ 0 [some (.ref q)] [] _
  first | refine jm_aload_n d_B_init_0 rfl ?_ | refine jm_aload_nN d_B_init_0 rfl ?_
  refine jm_objInit d_B_init_1 l_B_1 iw_obj cw_obj (by omega) (Nat.le_of_ble_eq_true rfl) ?_
  first | refine jm_aload_n d_B_init_4 rfl ?_ | refine jm_aload_nN d_B_init_4 rfl ?_
  refine jm_bipushL (v := 8) d_B_init_5 (by decide) ?_
  refine jm_anewarray 3 d_B_init_7 (by decide) rfl c_B_9 ao_Agent (by decide) (by decide) (by omega) (by decide) (fun q0 hq0 => ?_)
  have kp0 := kq_new (kn := (103, 8)) (dv := fun _ => .null) hq hq0
  refine jm_putF d_B_init_10 f_B_11 rfl kp0 rfl rfl ?_
  first | refine jm_aload_n d_B_init_13 rfl ?_ | refine jm_aload_nN d_B_init_13 rfl ?_
  refine jm_bipushL (v := 12) d_B_init_14 (by decide) ?_
  refine jm_anewarray 4 d_B_init_16 (by decide) rfl c_B_15 ao_Pair (by decide) (by decide) (by omega) (by decide) (fun q1 hq1 => ?_)
  have kp1 := kq_new (kn := (104, 12)) (dv := fun _ => .null) kp0 hq1
  refine jm_putF d_B_init_19 f_B_17 rfl kp1 rfl rfl ?_
  first | refine jm_aload_n d_B_init_22 rfl ?_ | refine jm_aload_nN d_B_init_22 rfl ?_
  refine jm_bipushL (v := 20) d_B_init_23 (by decide) ?_
  refine jm_anewarray 5 d_B_init_25 (by decide) rfl c_B_21 ao_Letter (by decide) (by decide) (by omega) (by decide) (fun q2 hq2 => ?_)
  have kp2 := kq_new (kn := (105, 20)) (dv := fun _ => .null) kp1 hq2
  refine jm_putF d_B_init_28 f_B_23 rfl kp2 rfl rfl ?_
  first | refine jm_aload_n d_B_init_31 rfl ?_ | refine jm_aload_nN d_B_init_31 rfl ?_
  refine jm_bipushL (v := 8) d_B_init_32 (by decide) ?_
  refine jm_newarray 0 d_B_init_34 (by decide) ac_int rfl (fun U cA => va_nm_int) (by decide) (by decide) (by omega) (by decide) (fun q3 hq3 => ?_)
  have kp3 := kq_new (kn := (100, 8)) (dv := fun _ => .int 0) kp2 hq3
  refine jm_putF d_B_init_36 f_B_27 rfl kp3 rfl rfl ?_
  first | refine jm_aload_n d_B_init_39 rfl ?_ | refine jm_aload_nN d_B_init_39 rfl ?_
  refine jm_iconstL (v := 1) d_B_init_40 (by decide) ?_
  refine jm_putf d_B_init_41 f_B_31 kp3 rfl rfl ?_
  exact jm_vret d_B_init_44 rfl ⟨rfl, q0, q1, q2, q3, hq0, hq1, hq2, hq3, rfl⟩
end
