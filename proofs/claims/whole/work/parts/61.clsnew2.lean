/-! THE CLASS: agents and pairs are told; a new one. Written by wip/whole/gen/p61.py -/
section
variable {Γ : jm_G} {h h0 : jm_H} {x : Nat} {L : Nat → Nat → Nat} {ρ ρ0 : Nat → Nat} {sz : Nat → Nat → Nat} {C : mS}
theorem rl_ne {q a p : Nat} (h : p ≠ q) : rl ρ q a p = ρ p := if_neg h
theorem rl_eq {q a : Nat} : rl ρ q a q = a := if_pos rfl
def aval (j : Nat) (z : Int32) : Int32 := match j with
  | 3 => z
  | 10 => -1
  | 16 => -1
  | 51 => -1
  | 57 => -1
  | 59 => -1
  | _ => 0
def isA (j : Nat) : Bool := [3, 52, 9, 10, 50, 18, 17, 16, 51, 22, 15, 23, 28, 57, 59].contains j
/-- agent n is new, with z values -/
def nwA (C : mS) (n : Nat) (z : Int32) : mS := fun j i => if i = n ∧ isA j = true then aval j z else if j = 4 ∧ 4 * n ≤ i ∧ i < 4 * n + 4 then 0 else C j i
theorem nwA_o {n j i : Nat} {z : Int32} (h4 : j ≠ 4) (hi : i ≠ n ∨ isA j = false) : nwA C n z j i = C j i := by
  unfold nwA
  rw [if_neg, if_neg (fun q => h4 q.1)]
  rintro ⟨q1, q2⟩
  rcases hi with z | z
  · exact z q1
  · rw [z] at q2; cases q2
/-- the fields of a new agent -/
abbrev nwF (Γ : jm_G) (h : jm_H) (q q2 q3 n : Nat) (z : Int32) : Prop := h.1 q = some (1, 0) ∧ h.1 q2 = some (100, 4) ∧ h.1 q3 = some (106, 7) ∧ h.2 1 0 q = .int (nI n) ∧ h.2 1 1 q = .int z ∧ h.2 1 2 q = .ref q2 ∧ h.2 1 3 q = .ref q3 ∧ h.2 1 4 q = .int 0 ∧ h.2 1 5 q = .int 0 ∧ h.2 1 6 q = .null ∧ h.2 1 7 q = .ref (jm_eA Γ 0) ∧ h.2 1 8 q = .int 0 ∧ h.2 1 9 q = .int 0 ∧ h.2 1 10 q = .int (-1) ∧ h.2 1 11 q = .int (-1) ∧ h.2 1 12 q = .int 0 ∧ h.2 1 13 q = .int 0 ∧ h.2 1 14 q = .null ∧ h.2 1 15 q = .int 0 ∧ h.2 1 16 q = .null ∧ h.2 1 17 q = .int 0 ∧ ∀ i, i < 4 → h.2 100 i q2 = .int 0
theorem co_ag {q q2 q3 n : Nat} {z : Int32} (hc : co Γ h x L ρ sz C) (hf : xt ρ0 h0 ρ h) (hq0 : h0.1 q = none) (hq20 : h0.1 q2 = none) (hq30 : h0.1 q3 = none) (h6 : ρ q = 6) (h62 : ρ q2 = 6) (h63 : ρ q3 = 6) (hF : nwF Γ h q q2 q3 n z) (hn : sz 1 0 = n) (hn8 : n < 8) (h4 : ∀ a, sz 4 a = 0) (h5 : ∀ p, sz 5 p ≠ 1) :
    co Γ (jm_set h 100 n (L 0 0) (.ref q)) x (lu (lu (lu L 1 n q) 2 n q2) 3 n q3) (rl (rl (rl ρ q (10 + n)) q2 (20 + n)) q3 (30 + n)) (lu sz 1 0 (n + 1)) (nwA C n z) ∧ xt ρ0 h0 (rl (rl (rl ρ q (10 + n)) q2 (20 + n)) q3 (30 + n)) (jm_set h 100 n (L 0 0) (.ref q)) := by
  obtain ⟨k1, k2, k3, g0, g1, g2, g3, g4, g5, g6, g7, g8, g9, g10, g11, g12, g13, g14, g15, g16, g17, gz⟩ := hF
  have n12 : q ≠ q2 := fun e => by rw [e, k2] at k1; cases k1
  have n13 : q ≠ q3 := fun e => by rw [e, k3] at k1; cases k1
  have n23 : q2 ≠ q3 := fun e => by rw [e, k3] at k2; cases k2
  obtain ⟨c1, c2, c3, c4, c5, cb⟩ := co_rl (a := 30 + n) (co_rl (a := 20 + n) (co_rl (a := 10 + n) hc h6) ((rl_ne (Ne.symm n12)).trans h62)) (((rl_ne (Ne.symm n23)).trans (rl_ne (Ne.symm n13))).trans h63)
  have hf' : xt ρ0 h0 (rl (rl (rl ρ q (10 + n)) q2 (20 + n)) q3 (30 + n)) h := xt_rl (xt_rl (xt_rl hf hq0) hq20) hq30
  have e1 : rl (rl (rl ρ q (10 + n)) q2 (20 + n)) q3 (30 + n) q = 10 + n := by rw [rl_ne n13, rl_ne n12, rl_eq]
  have e2 : rl (rl (rl ρ q (10 + n)) q2 (20 + n)) q3 (30 + n) q2 = 20 + n := by rw [rl_ne n23, rl_eq]
  have e3 : rl (rl (rl ρ q (10 + n)) q2 (20 + n)) q3 (30 + n) q3 = 30 + n := rl_eq
  generalize hρ : rl (rl (rl ρ q (10 + n)) q2 (20 + n)) q3 (30 + n) = ρ' at *
  have hra := c2.2.1
  have hz : ∀ p, ρ' p ≠ 2 → ∀ t' j, (jm_set h 100 n (L 0 0) (.ref q)).2 t' j p = h.2 t' j p := by
    intro p hp t' j
    show (if t' = 100 ∧ j = n ∧ p = L 0 0 then Value.ref q else h.2 t' j p) = _
    rw [if_neg]
    rintro ⟨-, -, rfl⟩
    exact hp hra
  have hz' : ∀ p, h.1 p ≠ none → ρ' p = 0 → (jm_set h 100 n (L 0 0) (.ref q)).1 p = h.1 p ∧ ρ' p = ρ' p ∧ ∀ t' j, (jm_set h 100 n (L 0 0) (.ref q)).2 t' j p = h.2 t' j p := fun p _ h2 => ⟨rfl, rfl, hz p (by omega)⟩
  have l1 : lu (lu (lu L 1 n q) 2 n q2) 3 n q3 1 n = q := lu_eq
  have l2 : lu (lu (lu L 1 n q) 2 n q2) 3 n q3 2 n = q2 := lu_eq
  have l3 : lu (lu (lu L 1 n q) 2 n q2) 3 n q3 3 n = q3 := lu_eq
  have l1n : ∀ i, i ≠ n → lu (lu (lu L 1 n q) 2 n q2) 3 n q3 1 i = L 1 i := fun i hi => lu_ne hi
  have l2n : ∀ i, i ≠ n → lu (lu (lu L 1 n q) 2 n q2) 3 n q3 2 i = L 2 i := fun i hi => lu_ne (L := lu L 1 n q) hi
  have l3n : ∀ i, i ≠ n → lu (lu (lu L 1 n q) 2 n q2) 3 n q3 3 i = L 3 i := fun i hi => lu_ne (L := lu (lu L 1 n q) 2 n q2) hi
  have lk : ∀ g i, g ≠ 1 → g ≠ 2 → g ≠ 3 → lu (lu (lu L 1 n q) 2 n q2) 3 n q3 g i = L g i := fun g i a b c => by simp [lu, a, b, c]
  generalize hL : lu (lu (lu L 1 n q) 2 n q2) 3 n q3 = L' at *
  have hsz : lu sz 1 0 (n + 1) 1 0 = n + 1 := lu_eq
  have hB : cB (lu sz 1 0 (n + 1)) := ⟨by rw [hsz]; omega, cb.2.1, cb.2.2.1, cb.2.2.2⟩
  refine ⟨⟨?_, ?_, ?_, ?_, ?_, hB⟩, ?_⟩
  · intro r i hl
    unfold cV at hl
    split at hl
    · have hl0 : i = 0 := hl
      obtain ⟨d1, d2, d3⟩ := c1 1 i hl
      have d2' : ρ' x = 1 := d2
      exact ⟨d1, d2, (hz x (by omega) _ _).trans (d3.trans (by show Value.int (C 1 i) = .int (nwA C n z 1 i); rw [nwA_o (by decide) (Or.inr rfl)]))⟩
    · rw [hsz] at hl
      by_cases e : i = n
      · subst e
        show h.1 (L' 1 i) = _ ∧ ρ' (L' 1 i) = _ ∧ (jm_set h 100 i (L 0 0) (.ref q)).2 1 1 (L' 1 i) = _
        rw [l1]
        refine ⟨k1, e1, (hz q (by omega) 1 1).trans (by show h.2 1 1 q = .int (nwA C i z 3 i); rw [g1]; simp [nwA, isA, aval])⟩
      · obtain ⟨d1, d2, d3⟩ := c1 3 i (show i < sz 1 0 by omega)
        have d2' : ρ' (L 1 i) = 10 + i := d2
        show h.1 (L' 1 i) = _ ∧ ρ' (L' 1 i) = _ ∧ (jm_set h 100 n (L 0 0) (.ref q)).2 1 1 (L' 1 i) = _
        rw [l1n i e]
        exact ⟨d1, d2, (hz (L 1 i) (by omega) 1 1).trans (d3.trans (by show Value.int (C 3 i) = .int (nwA C n z 3 i); rw [nwA_o (by decide) (Or.inl e)]))⟩
    · rw [hsz] at hl
      by_cases e : i / 4 = n
      · show h.1 (L' 2 (i / 4)) = _ ∧ ρ' (L' 2 (i / 4)) = 20 + i / 4 ∧ (jm_set h 100 n (L 0 0) (.ref q)).2 100 (i % 4) (L' 2 (i / 4)) = .int (nwA C n z 4 i)
        rw [e, l2]
        refine ⟨k2, e2, (hz q2 (by omega) 100 (i % 4)).trans ?_⟩
        rw [gz _ (by omega)]
        unfold nwA
        rw [if_neg (fun z => by cases z.2), if_pos ⟨rfl, by omega, by omega⟩]
      · obtain ⟨d1, d2, d3⟩ := c1 4 i (show i < 4 * sz 1 0 by omega)
        have d2' : ρ' (L 2 (i / 4)) = 20 + i / 4 := d2
        show h.1 (L' 2 (i / 4)) = _ ∧ ρ' (L' 2 (i / 4)) = 20 + i / 4 ∧ (jm_set h 100 n (L 0 0) (.ref q)).2 100 (i % 4) (L' 2 (i / 4)) = .int (nwA C n z 4 i)
        rw [l2n _ e]
        refine ⟨d1, d2, (hz (L 2 (i / 4)) (by omega) 100 (i % 4)).trans (d3.trans ?_)⟩
        show Value.int (C 4 i) = .int (nwA C n z 4 i)
        unfold nwA
        rw [if_neg (fun z => by cases z.2), if_neg (by omega)]
    · have hl0 : i = 0 := hl
      obtain ⟨d1, d2, d3⟩ := c1 5 i hl
      have d2' : ρ' x = 1 := d2
      exact ⟨d1, d2, (hz x (by omega) _ _).trans (d3.trans (by show Value.int (C 5 i) = .int (nwA C n z 5 i); rw [nwA_o (by decide) (Or.inr rfl)]))⟩
    · rw [hsz] at hl
      by_cases e : i = n
      · subst e
        show h.1 (L' 1 i) = _ ∧ ρ' (L' 1 i) = _ ∧ (jm_set h 100 i (L 0 0) (.ref q)).2 1 5 (L' 1 i) = _
        rw [l1]
        refine ⟨k1, e1, (hz q (by omega) 1 5).trans (by show h.2 1 5 q = .int (nwA C i z 9 i); rw [g5]; simp [nwA, isA, aval])⟩
      · obtain ⟨d1, d2, d3⟩ := c1 9 i (show i < sz 1 0 by omega)
        have d2' : ρ' (L 1 i) = 10 + i := d2
        show h.1 (L' 1 i) = _ ∧ ρ' (L' 1 i) = _ ∧ (jm_set h 100 n (L 0 0) (.ref q)).2 1 5 (L' 1 i) = _
        rw [l1n i e]
        exact ⟨d1, d2, (hz (L 1 i) (by omega) 1 5).trans (d3.trans (by show Value.int (C 9 i) = .int (nwA C n z 9 i); rw [nwA_o (by decide) (Or.inl e)]))⟩
    · rw [hsz] at hl
      by_cases e : i = n
      · subst e
        show h.1 (L' 1 i) = _ ∧ ρ' (L' 1 i) = _ ∧ (jm_set h 100 i (L 0 0) (.ref q)).2 1 6 (L' 1 i) = _
        rw [l1]
        refine ⟨k1, e1, (hz q (by omega) 1 6).trans (by show h.2 1 6 q = (if nwA C i z 10 i = -1 then Value.null else _); rw [g6, if_pos (by simp [nwA, isA, aval])])⟩
      · obtain ⟨d1, d2, d3⟩ := c1 10 i (show i < sz 1 0 by omega)
        have d2' : ρ' (L 1 i) = 10 + i := d2
        show h.1 (L' 1 i) = _ ∧ ρ' (L' 1 i) = _ ∧ (jm_set h 100 n (L 0 0) (.ref q)).2 1 6 (L' 1 i) = _
        rw [l1n i e]
        exact ⟨d1, d2, (hz (L 1 i) (by omega) 1 6).trans (d3.trans (by show (if C 10 i = -1 then Value.null else .ref (L 5 (C 10 i).toNatClampNeg)) = (if nwA C n z 10 i = -1 then Value.null else .ref (L' 5 (nwA C n z 10 i).toNatClampNeg)); rw [nwA_o (by decide) (Or.inl e), lk 5 _ (by decide) (by decide) (by decide)]))⟩
    · exact absurd hl.2 (h5 i)
    · exact absurd hl.2 (h5 i)
    · rw [hsz] at hl
      by_cases e : i = n
      · subst e
        show h.1 (L' 1 i) = _ ∧ ρ' (L' 1 i) = _ ∧ (jm_set h 100 i (L 0 0) (.ref q)).2 1 13 (L' 1 i) = _
        rw [l1]
        refine ⟨k1, e1, (hz q (by omega) 1 13).trans (by show h.2 1 13 q = .int (nwA C i z 15 i); rw [g13]; simp [nwA, isA, aval])⟩
      · obtain ⟨d1, d2, d3⟩ := c1 15 i (show i < sz 1 0 by omega)
        have d2' : ρ' (L 1 i) = 10 + i := d2
        show h.1 (L' 1 i) = _ ∧ ρ' (L' 1 i) = _ ∧ (jm_set h 100 n (L 0 0) (.ref q)).2 1 13 (L' 1 i) = _
        rw [l1n i e]
        exact ⟨d1, d2, (hz (L 1 i) (by omega) 1 13).trans (d3.trans (by show Value.int (C 15 i) = .int (nwA C n z 15 i); rw [nwA_o (by decide) (Or.inl e)]))⟩
    · rw [hsz] at hl
      by_cases e : i = n
      · subst e
        show h.1 (L' 1 i) = _ ∧ ρ' (L' 1 i) = _ ∧ (jm_set h 100 i (L 0 0) (.ref q)).2 1 10 (L' 1 i) = _
        rw [l1]
        refine ⟨k1, e1, (hz q (by omega) 1 10).trans (by show h.2 1 10 q = .int (nwA C i z 16 i); rw [g10]; simp [nwA, isA, aval])⟩
      · obtain ⟨d1, d2, d3⟩ := c1 16 i (show i < sz 1 0 by omega)
        have d2' : ρ' (L 1 i) = 10 + i := d2
        show h.1 (L' 1 i) = _ ∧ ρ' (L' 1 i) = _ ∧ (jm_set h 100 n (L 0 0) (.ref q)).2 1 10 (L' 1 i) = _
        rw [l1n i e]
        exact ⟨d1, d2, (hz (L 1 i) (by omega) 1 10).trans (d3.trans (by show Value.int (C 16 i) = .int (nwA C n z 16 i); rw [nwA_o (by decide) (Or.inl e)]))⟩
    · rw [hsz] at hl
      by_cases e : i = n
      · subst e
        show h.1 (L' 1 i) = _ ∧ ρ' (L' 1 i) = _ ∧ (jm_set h 100 i (L 0 0) (.ref q)).2 1 9 (L' 1 i) = _
        rw [l1]
        refine ⟨k1, e1, (hz q (by omega) 1 9).trans (by show h.2 1 9 q = .int (nwA C i z 17 i); rw [g9]; simp [nwA, isA, aval])⟩
      · obtain ⟨d1, d2, d3⟩ := c1 17 i (show i < sz 1 0 by omega)
        have d2' : ρ' (L 1 i) = 10 + i := d2
        show h.1 (L' 1 i) = _ ∧ ρ' (L' 1 i) = _ ∧ (jm_set h 100 n (L 0 0) (.ref q)).2 1 9 (L' 1 i) = _
        rw [l1n i e]
        exact ⟨d1, d2, (hz (L 1 i) (by omega) 1 9).trans (d3.trans (by show Value.int (C 17 i) = .int (nwA C n z 17 i); rw [nwA_o (by decide) (Or.inl e)]))⟩
    · rw [hsz] at hl
      by_cases e : i = n
      · subst e
        show h.1 (L' 1 i) = _ ∧ ρ' (L' 1 i) = _ ∧ (jm_set h 100 i (L 0 0) (.ref q)).2 1 8 (L' 1 i) = _
        rw [l1]
        refine ⟨k1, e1, (hz q (by omega) 1 8).trans (by show h.2 1 8 q = .int (nwA C i z 18 i); rw [g8]; simp [nwA, isA, aval])⟩
      · obtain ⟨d1, d2, d3⟩ := c1 18 i (show i < sz 1 0 by omega)
        have d2' : ρ' (L 1 i) = 10 + i := d2
        show h.1 (L' 1 i) = _ ∧ ρ' (L' 1 i) = _ ∧ (jm_set h 100 n (L 0 0) (.ref q)).2 1 8 (L' 1 i) = _
        rw [l1n i e]
        exact ⟨d1, d2, (hz (L 1 i) (by omega) 1 8).trans (d3.trans (by show Value.int (C 18 i) = .int (nwA C n z 18 i); rw [nwA_o (by decide) (Or.inl e)]))⟩
    · rw [hsz] at hl
      by_cases e : i = n
      · subst e
        show h.1 (L' 1 i) = _ ∧ ρ' (L' 1 i) = _ ∧ (jm_set h 100 i (L 0 0) (.ref q)).2 1 12 (L' 1 i) = _
        rw [l1]
        refine ⟨k1, e1, (hz q (by omega) 1 12).trans (by show h.2 1 12 q = .int (nwA C i z 22 i); rw [g12]; simp [nwA, isA, aval])⟩
      · obtain ⟨d1, d2, d3⟩ := c1 22 i (show i < sz 1 0 by omega)
        have d2' : ρ' (L 1 i) = 10 + i := d2
        show h.1 (L' 1 i) = _ ∧ ρ' (L' 1 i) = _ ∧ (jm_set h 100 n (L 0 0) (.ref q)).2 1 12 (L' 1 i) = _
        rw [l1n i e]
        exact ⟨d1, d2, (hz (L 1 i) (by omega) 1 12).trans (d3.trans (by show Value.int (C 22 i) = .int (nwA C n z 22 i); rw [nwA_o (by decide) (Or.inl e)]))⟩
    · rw [hsz] at hl
      by_cases e : i = n
      · subst e
        show h.1 (L' 1 i) = _ ∧ ρ' (L' 1 i) = _ ∧ (jm_set h 100 i (L 0 0) (.ref q)).2 1 15 (L' 1 i) = _
        rw [l1]
        refine ⟨k1, e1, (hz q (by omega) 1 15).trans (by show h.2 1 15 q = .int (nwA C i z 23 i); rw [g15]; simp [nwA, isA, aval])⟩
      · obtain ⟨d1, d2, d3⟩ := c1 23 i (show i < sz 1 0 by omega)
        have d2' : ρ' (L 1 i) = 10 + i := d2
        show h.1 (L' 1 i) = _ ∧ ρ' (L' 1 i) = _ ∧ (jm_set h 100 n (L 0 0) (.ref q)).2 1 15 (L' 1 i) = _
        rw [l1n i e]
        exact ⟨d1, d2, (hz (L 1 i) (by omega) 1 15).trans (d3.trans (by show Value.int (C 23 i) = .int (nwA C n z 23 i); rw [nwA_o (by decide) (Or.inl e)]))⟩
    · have hl0 : i = 0 := hl
      obtain ⟨d1, d2, d3⟩ := c1 27 i hl
      have d2' : ρ' x = 1 := d2
      exact ⟨d1, d2, (hz x (by omega) _ _).trans (d3.trans (by show Value.int (C 27 i) = .int (nwA C n z 27 i); rw [nwA_o (by decide) (Or.inr rfl)]))⟩
    · rw [hsz] at hl
      by_cases e : i = n
      · subst e
        show h.1 (L' 1 i) = _ ∧ ρ' (L' 1 i) = _ ∧ (jm_set h 100 i (L 0 0) (.ref q)).2 1 17 (L' 1 i) = _
        rw [l1]
        refine ⟨k1, e1, (hz q (by omega) 1 17).trans (by show h.2 1 17 q = .int (nwA C i z 28 i); rw [g17]; simp [nwA, isA, aval])⟩
      · obtain ⟨d1, d2, d3⟩ := c1 28 i (show i < sz 1 0 by omega)
        have d2' : ρ' (L 1 i) = 10 + i := d2
        show h.1 (L' 1 i) = _ ∧ ρ' (L' 1 i) = _ ∧ (jm_set h 100 n (L 0 0) (.ref q)).2 1 17 (L' 1 i) = _
        rw [l1n i e]
        exact ⟨d1, d2, (hz (L 1 i) (by omega) 1 17).trans (d3.trans (by show Value.int (C 28 i) = .int (nwA C n z 28 i); rw [nwA_o (by decide) (Or.inl e)]))⟩
    · have hl0 : i < 8 := hl
      obtain ⟨d1, d2, d3⟩ := c1 32 i hl
      have d2' : ρ' (L 0 3) = 5 := d2
      show h.1 (L' 0 3) = _ ∧ ρ' (L' 0 3) = _ ∧ (jm_set h 100 n (L 0 0) (.ref q)).2 (cT 32) (cJ 32 i) (L' 0 3) = _
      rw [lk 0 3 (by decide) (by decide) (by decide)]
      exact ⟨d1, d2, (hz (L 0 3) (by omega) _ _).trans (d3.trans (by show Value.int (C 32 i) = .int (nwA C n z 32 i); rw [nwA_o (by decide) (Or.inr rfl)]))⟩
    · have hl0 : i = 0 := hl
      obtain ⟨d1, d2, d3⟩ := c1 34 i hl
      have d2' : ρ' x = 1 := d2
      exact ⟨d1, d2, (hz x (by omega) _ _).trans (d3.trans (by show Value.int (C 34 i) = .int (nwA C n z 34 i); rw [nwA_o (by decide) (Or.inr rfl)]))⟩
    · rw [hsz] at hl
      by_cases e : i = n
      · subst e
        show h.1 (L' 1 i) = _ ∧ ρ' (L' 1 i) = _ ∧ (jm_set h 100 i (L 0 0) (.ref q)).2 1 7 (L' 1 i) = _
        rw [l1]
        refine ⟨k1, e1, (hz q (by omega) 1 7).trans (by show h.2 1 7 q = .ref (jm_eA Γ (nwA C i z 50 i).toNatClampNeg); rw [g7, show nwA C i z 50 i = 0 by simp [nwA, isA, aval]]; rfl)⟩
      · obtain ⟨d1, d2, d3⟩ := c1 50 i (show i < sz 1 0 by omega)
        have d2' : ρ' (L 1 i) = 10 + i := d2
        show h.1 (L' 1 i) = _ ∧ ρ' (L' 1 i) = _ ∧ (jm_set h 100 n (L 0 0) (.ref q)).2 1 7 (L' 1 i) = _
        rw [l1n i e]
        exact ⟨d1, d2, (hz (L 1 i) (by omega) 1 7).trans (d3.trans (by show Value.ref (jm_eA Γ (C 50 i).toNatClampNeg) = .ref (jm_eA Γ (nwA C n z 50 i).toNatClampNeg); rw [nwA_o (by decide) (Or.inl e)]))⟩
    · rw [hsz] at hl
      by_cases e : i = n
      · subst e
        show h.1 (L' 1 i) = _ ∧ ρ' (L' 1 i) = _ ∧ (jm_set h 100 i (L 0 0) (.ref q)).2 1 11 (L' 1 i) = _
        rw [l1]
        refine ⟨k1, e1, (hz q (by omega) 1 11).trans (by show h.2 1 11 q = .int (nwA C i z 51 i); rw [g11]; simp [nwA, isA, aval])⟩
      · obtain ⟨d1, d2, d3⟩ := c1 51 i (show i < sz 1 0 by omega)
        have d2' : ρ' (L 1 i) = 10 + i := d2
        show h.1 (L' 1 i) = _ ∧ ρ' (L' 1 i) = _ ∧ (jm_set h 100 n (L 0 0) (.ref q)).2 1 11 (L' 1 i) = _
        rw [l1n i e]
        exact ⟨d1, d2, (hz (L 1 i) (by omega) 1 11).trans (d3.trans (by show Value.int (C 51 i) = .int (nwA C n z 51 i); rw [nwA_o (by decide) (Or.inl e)]))⟩
    · rw [hsz] at hl
      by_cases e : i = n
      · subst e
        show h.1 (L' 1 i) = _ ∧ ρ' (L' 1 i) = _ ∧ (jm_set h 100 i (L 0 0) (.ref q)).2 1 4 (L' 1 i) = _
        rw [l1]
        refine ⟨k1, e1, (hz q (by omega) 1 4).trans (by show h.2 1 4 q = .int (nwA C i z 52 i); rw [g4]; simp [nwA, isA, aval])⟩
      · obtain ⟨d1, d2, d3⟩ := c1 52 i (show i < sz 1 0 by omega)
        have d2' : ρ' (L 1 i) = 10 + i := d2
        show h.1 (L' 1 i) = _ ∧ ρ' (L' 1 i) = _ ∧ (jm_set h 100 n (L 0 0) (.ref q)).2 1 4 (L' 1 i) = _
        rw [l1n i e]
        exact ⟨d1, d2, (hz (L 1 i) (by omega) 1 4).trans (d3.trans (by show Value.int (C 52 i) = .int (nwA C n z 52 i); rw [nwA_o (by decide) (Or.inl e)]))⟩
    · have : i % 8 < sz 4 (i / 8) := hl.2
      rw [h4] at this
      omega
    · have : i % 8 < sz 4 (i / 8) := hl.2
      rw [h4] at this
      omega
    · have hl0 : i = 0 := hl
      obtain ⟨d1, d2, d3⟩ := c1 60 i hl
      have d2' : ρ' x = 1 := d2
      exact ⟨d1, d2, (hz x (by omega) _ _).trans (d3.trans (by show Value.int (C 60 i) = .int (nwA C n z 60 i); rw [nwA_o (by decide) (Or.inr rfl)]))⟩
    · have hl0 : i < sz 6 0 := hl
      obtain ⟨d1, d2, d3⟩ := c1 62 i hl
      have d2' : ρ' (L 6 i) = 50 + i := d2
      show h.1 (L' 6 i) = _ ∧ ρ' (L' 6 i) = _ ∧ (jm_set h 100 n (L 0 0) (.ref q)).2 (cT 62) (cJ 62 i) (L' 6 i) = _
      rw [lk 6 i (by decide) (by decide) (by decide)]
      exact ⟨d1, d2, (hz (L 6 i) (by omega) _ _).trans (d3.trans (by show Value.int (C 62 i) = .int (nwA C n z 62 i); rw [nwA_o (by decide) (Or.inr rfl)]))⟩
    · have hl0 : i < sz 6 0 := hl
      obtain ⟨d1, d2, d3⟩ := c1 63 i hl
      have d2' : ρ' (L 6 i) = 50 + i := d2
      show h.1 (L' 6 i) = _ ∧ ρ' (L' 6 i) = _ ∧ (jm_set h 100 n (L 0 0) (.ref q)).2 (cT 63) (cJ 63 i) (L' 6 i) = _
      rw [lk 6 i (by decide) (by decide) (by decide)]
      exact ⟨d1, d2, (hz (L 6 i) (by omega) _ _).trans (d3.trans (by show Value.int (C 63 i) = .int (nwA C n z 63 i); rw [nwA_o (by decide) (Or.inr rfl)]))⟩
    · have hl0 : i < 16 * sz 6 0 := hl
      obtain ⟨d1, d2, d3⟩ := c1 64 i hl
      have d2' : ρ' (L 7 (i / 16)) = 70 + i / 16 := d2
      show h.1 (L' 7 (i / 16)) = _ ∧ ρ' (L' 7 (i / 16)) = _ ∧ (jm_set h 100 n (L 0 0) (.ref q)).2 (cT 64) (cJ 64 i) (L' 7 (i / 16)) = _
      rw [lk 7 (i / 16) (by decide) (by decide) (by decide)]
      exact ⟨d1, d2, (hz (L 7 (i / 16)) (by omega) _ _).trans (d3.trans (by show Value.int (C 64 i) = .int (nwA C n z 64 i); rw [nwA_o (by decide) (Or.inr rfl)]))⟩
    · exact absurd hl.2 (h5 i)
    · rw [hsz] at hl
      by_cases e : i = n
      · subst e
        refine ⟨(congrArg h.1 (lk 0 0 (by decide) (by decide) (by decide))).trans c2.1, (congrArg ρ' (lk 0 0 (by decide) (by decide) (by decide))).trans hra, ?_⟩
        show (if (100 : Nat) = 100 ∧ i = i ∧ L' 0 0 = L 0 0 then Value.ref q else _) = .ref (L' 1 i)
        rw [if_pos ⟨rfl, rfl, lk 0 0 (by decide) (by decide) (by decide)⟩, l1]
      · obtain ⟨d1, d2, d3⟩ := c1 70 i (show i < sz 1 0 by omega)
        refine ⟨(congrArg h.1 (lk 0 0 (by decide) (by decide) (by decide))).trans d1, (congrArg ρ' (lk 0 0 (by decide) (by decide) (by decide))).trans d2, ?_⟩
        show (if (100 : Nat) = 100 ∧ i = n ∧ L' 0 0 = L 0 0 then Value.ref q else h.2 100 i (L' 0 0)) = .ref (L' 1 i)
        rw [if_neg (fun z => e z.2.1), l1n i e, lk 0 0 (by decide) (by decide) (by decide)]
        exact d3
    · rw [hsz] at hl
      by_cases e : i = n
      · subst e
        show h.1 (L' 1 i) = _ ∧ ρ' (L' 1 i) = _ ∧ (jm_set h 100 i (L 0 0) (.ref q)).2 1 0 (L' 1 i) = _
        rw [l1]
        refine ⟨k1, e1, (hz q (by omega) 1 0).trans (by show h.2 1 0 q = .int (nI i); rw [g0])⟩
      · obtain ⟨d1, d2, d3⟩ := c1 71 i (show i < sz 1 0 by omega)
        have d2' : ρ' (L 1 i) = 10 + i := d2
        show h.1 (L' 1 i) = _ ∧ ρ' (L' 1 i) = _ ∧ (jm_set h 100 n (L 0 0) (.ref q)).2 1 0 (L' 1 i) = _
        rw [l1n i e]
        exact ⟨d1, d2, (hz (L 1 i) (by omega) 1 0).trans (d3.trans (by show Value.int (nI i) = .int (nI i); rfl))⟩
    · rw [hsz] at hl
      by_cases e : i = n
      · subst e
        show h.1 (L' 1 i) = _ ∧ ρ' (L' 1 i) = _ ∧ (jm_set h 100 i (L 0 0) (.ref q)).2 1 2 (L' 1 i) = _
        rw [l1]
        refine ⟨k1, e1, (hz q (by omega) 1 2).trans (by show h.2 1 2 q = .ref (L' 2 i); rw [g2]; rw [l2])⟩
      · obtain ⟨d1, d2, d3⟩ := c1 72 i (show i < sz 1 0 by omega)
        have d2' : ρ' (L 1 i) = 10 + i := d2
        show h.1 (L' 1 i) = _ ∧ ρ' (L' 1 i) = _ ∧ (jm_set h 100 n (L 0 0) (.ref q)).2 1 2 (L' 1 i) = _
        rw [l1n i e]
        exact ⟨d1, d2, (hz (L 1 i) (by omega) 1 2).trans (d3.trans (by show Value.ref (L 2 i) = .ref (L' 2 i); rw [l2n i e]))⟩
    · rw [hsz] at hl
      by_cases e : i = n
      · subst e
        show h.1 (L' 1 i) = _ ∧ ρ' (L' 1 i) = _ ∧ (jm_set h 100 i (L 0 0) (.ref q)).2 1 3 (L' 1 i) = _
        rw [l1]
        refine ⟨k1, e1, (hz q (by omega) 1 3).trans (by show h.2 1 3 q = .ref (L' 3 i); rw [g3]; rw [l3])⟩
      · obtain ⟨d1, d2, d3⟩ := c1 73 i (show i < sz 1 0 by omega)
        have d2' : ρ' (L 1 i) = 10 + i := d2
        show h.1 (L' 1 i) = _ ∧ ρ' (L' 1 i) = _ ∧ (jm_set h 100 n (L 0 0) (.ref q)).2 1 3 (L' 1 i) = _
        rw [l1n i e]
        exact ⟨d1, d2, (hz (L 1 i) (by omega) 1 3).trans (d3.trans (by show Value.ref (L 3 i) = .ref (L' 3 i); rw [l3n i e]))⟩
    · have : i % 8 < sz 4 (i / 8) := hl.2
      rw [h4] at this
      omega
    · have hl0 : i < sz 6 0 := hl
      obtain ⟨d1, d2, d3⟩ := c1 75 i hl
      have d2' : ρ' (L 0 1) = 3 := d2
      show h.1 (L' 0 1) = _ ∧ ρ' (L' 0 1) = _ ∧ (jm_set h 100 n (L 0 0) (.ref q)).2 (cT 75) (cJ 75 i) (L' 0 1) = _
      rw [lk 0 1 (by decide) (by decide) (by decide)]
      exact ⟨d1, d2, (hz (L 0 1) (by omega) _ _).trans (d3.trans (by show Value.ref (L 6 i) = .ref (L' 6 i); rw [lk 6 i (by decide) (by decide) (by decide)]))⟩
    · have hl0 : i < sz 6 0 := hl
      obtain ⟨d1, d2, d3⟩ := c1 76 i hl
      have d2' : ρ' (L 6 i) = 50 + i := d2
      show h.1 (L' 6 i) = _ ∧ ρ' (L' 6 i) = _ ∧ (jm_set h 100 n (L 0 0) (.ref q)).2 (cT 76) (cJ 76 i) (L' 6 i) = _
      rw [lk 6 i (by decide) (by decide) (by decide)]
      exact ⟨d1, d2, (hz (L 6 i) (by omega) _ _).trans (d3.trans (by show Value.ref (L 7 i) = .ref (L' 7 i); rw [lk 7 i (by decide) (by decide) (by decide)]))⟩
    · have hl0 : i < sz 8 0 := hl
      obtain ⟨d1, d2, d3⟩ := c1 77 i hl
      have d2' : ρ' (L 0 2) = 4 := d2
      show h.1 (L' 0 2) = _ ∧ ρ' (L' 0 2) = _ ∧ (jm_set h 100 n (L 0 0) (.ref q)).2 (cT 77) (cJ 77 i) (L' 0 2) = _
      rw [lk 0 2 (by decide) (by decide) (by decide)]
      exact ⟨d1, d2, (hz (L 0 2) (by omega) _ _).trans (d3.trans (by show Value.ref (L 8 i) = .ref (L' 8 i); rw [lk 8 i (by decide) (by decide) (by decide)]))⟩
    · have hl0 : i = 0 := hl
      obtain ⟨d1, d2, d3⟩ := c1 78 i hl
      have d2' : ρ' x = 1 := d2
      exact ⟨d1, d2, (hz x (by omega) _ _).trans (d3.trans (by show Value.ref (L 0 0) = .ref (L' 0 0); rw [lk 0 0 (by decide) (by decide) (by decide)]))⟩
    · have hl0 : i = 0 := hl
      obtain ⟨d1, d2, d3⟩ := c1 79 i hl
      have d2' : ρ' x = 1 := d2
      exact ⟨d1, d2, (hz x (by omega) _ _).trans (d3.trans (by show Value.ref (L 0 1) = .ref (L' 0 1); rw [lk 0 1 (by decide) (by decide) (by decide)]))⟩
    · have hl0 : i = 0 := hl
      obtain ⟨d1, d2, d3⟩ := c1 80 i hl
      have d2' : ρ' x = 1 := d2
      exact ⟨d1, d2, (hz x (by omega) _ _).trans (d3.trans (by show Value.ref (L 0 2) = .ref (L' 0 2); rw [lk 0 2 (by decide) (by decide) (by decide)]))⟩
    · have hl0 : i = 0 := hl
      obtain ⟨d1, d2, d3⟩ := c1 81 i hl
      have d2' : ρ' x = 1 := d2
      exact ⟨d1, d2, (hz x (by omega) _ _).trans (d3.trans (by show Value.ref (L 0 3) = .ref (L' 0 3); rw [lk 0 3 (by decide) (by decide) (by decide)]))⟩
    · exact hl.elim
  · obtain ⟨a1, a2, a3, a4, a5, a6, a7⟩ := c2
    rw [lk 0 0 (by decide) (by decide) (by decide), lk 0 1 (by decide) (by decide) (by decide), lk 0 2 (by decide) (by decide) (by decide)]
    refine ⟨a1, a2, a3, a4, a5, a6, fun a ha => ?_⟩
    rw [hsz] at ha
    by_cases e : a = n
    · subst e
      rw [l3]
      exact ⟨k3, e3⟩
    · rw [l3n a e]
      exact a7 a (by omega)
  · intro a ha
    rw [hsz] at ha
    by_cases e : a = n
    · subst e
      rw [l1, hz q (by omega), hz q (by omega), g14, g16]
      exact ⟨Or.inl ⟨by simp [nwA, isA, aval], rfl⟩, Or.inl ⟨by simp [nwA, isA, aval], rfl⟩⟩
    · have ha' : a < sz 1 0 := by omega
      have e9 : ρ' (L 1 a) = 10 + a := (c1 3 a ha').2.1
      rw [l1n a e, hz (L 1 a) (by omega), hz (L 1 a) (by omega), nwA_o (j := 57) (by decide) (Or.inl e), nwA_o (j := 59) (by decide) (Or.inl e), show (fun i => nwA C n z 58 (256 * a + i)) = fun i => C 58 (256 * a + i) from funext fun i => nwA_o (by decide) (Or.inr rfl), show (fun i => nwA C n z 66 (256 * a + i)) = fun i => C 66 (256 * a + i) from funext fun i => nwA_o (by decide) (Or.inr rfl)]
      exact ⟨(c3 a ha').1.fr hz', (c3 a ha').2.fr hz'⟩
  · intro j hj
    have : j % 8 < sz 4 (j / 8) := hj.2
    rw [h4] at this
    omega
  · intro k hk
    have hk' : k < sz 8 0 := hk
    unfold LETC
    rw [lk 8 k (by decide) (by decide) (by decide), nwA_o (j := 35) (by decide) (Or.inr rfl), nwA_o (j := 36) (by decide) (Or.inr rfl), nwA_o (j := 37) (by decide) (Or.inr rfl), nwA_o (j := 38) (by decide) (Or.inr rfl), nwA_o (j := 67) (by decide) (Or.inr rfl), show (fun i => nwA C n z 68 (256 * k + i)) = fun i => C 68 (256 * k + i) from funext fun i => nwA_o (by decide) (Or.inr rfl)]
    exact (c5 k hk').fr hz'
  · intro p hp
    obtain ⟨f1', f2', f3'⟩ := hf' p hp
    exact ⟨f1', f2', fun z t' j => (hz p (by rcases z with z | z <;> omega) t' j).trans (f3' z t' j)⟩
end
