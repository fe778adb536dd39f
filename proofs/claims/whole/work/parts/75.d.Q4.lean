/-! SIMULATION Q4. Laid by wip/whole/gen/p71.py -/
section
variable {S C : mS} {n np nl T : Nat} {sz : Nat → Nat → Nat} {A : Rl} {dd : Nat → Nat} {hh : Nat → Prop}
theorem any_no {f : Nat → Bool} : ∀ k, ¬ anyB f k = true → ∀ i, i < k → f i = false
  | 0, _, i, hi => absurd hi (Nat.not_lt_zero _)
  | k + 1, h, i, hi => by
    rw [anyB, Bool.or_eq_true, not_or] at h
    rcases Nat.lt_or_ge i k with q | q
    · exact any_no k h.1 i q
    · rw [show i = k by omega]; exact Bool.eq_false_iff.mpr h.2
theorem st_1 (h : stF S n = 1) : S 2 0 ≠ 0 ∧ ∀ a, a < n → setS S a ∧ ¬ lostS S a := by
  unfold stF at h
  by_cases q : S 2 0 = 0
  · rw [if_pos q] at h; exact absurd h (by decide)
  rw [if_neg q] at h
  by_cases q1 : anyB (wideB S) n = true
  · rw [if_pos q1] at h; exact absurd h (by decide)
  rw [if_neg q1] at h
  by_cases q2 : anyB (openB S) n = true
  · rw [if_pos q2] at h; exact absurd h (by decide)
  rw [if_neg q2] at h
  by_cases q3 : anyB (lostB S) n = true
  · rw [if_pos q3] at h; exact absurd h (by decide)
  refine ⟨q, fun a ha => ?_⟩
  have z1 := any_no n q2 a ha
  have z2 := any_no n q3 a ha
  have z2' : ¬ lostS S a := of_decide_eq_false z2
  have z1' : ¬ (¬ setS S a ∧ ¬ lostS S a) := of_decide_eq_false z1
  exact ⟨Classical.byContradiction (fun e => z1' ⟨e, z2'⟩), z2'⟩
theorem st_12 (h : stF S n = 1 ∨ stF S n = 2) : S 2 0 ≠ 0 ∧ ∀ a, a < n → S 15 a = 0 ∧ (setS S a ∨ lostS S a) := by
  unfold stF at h
  by_cases q : S 2 0 = 0
  · rw [if_pos q] at h; exact absurd h (by decide)
  rw [if_neg q] at h
  by_cases q1 : anyB (wideB S) n = true
  · rw [if_pos q1] at h; exact absurd h (by decide)
  rw [if_neg q1] at h
  by_cases q2 : anyB (openB S) n = true
  · rw [if_pos q2] at h; exact absurd h (by decide)
  refine ⟨q, fun a ha => ?_⟩
  have z1 := any_no n q2 a ha
  have z0 := any_no n q1 a ha
  have z1' : ¬ (¬ setS S a ∧ ¬ lostS S a) := of_decide_eq_false z1
  have z0' : ¬ (S 15 a ≠ 0) := of_decide_eq_false z0
  exact ⟨Decidable.not_not.mp z0', Classical.byContradiction (fun e => z1' ⟨fun y => e (Or.inl y), fun y => e (Or.inr y)⟩)⟩
theorem bi_pr (hB : BI S n np nl T) : ∀ p, p < np → N S 6 p < 8 ∧ N S 7 p < 8 := fun p hp => by
  obtain ⟨f, g, h1, h2, h3, h4, -⟩ := hB.2.2.2.1 p hp
  have := hB.1.2.1
  exact ⟨by rw [show N S 6 p = f from N_nI h3 (by omega)]; omega, by rw [show N S 7 p = g from N_nI h4 (by omega)]; omega⟩
theorem se_n (hI : IS S n np A dd hh) {a b : Nat} (ha : a < n) (hb : b < 8) (q : cI (S 22 a) (nI b)) : A b a ∧ b < n := by
  have z := hI.1.2.2.2.1.2.1 a b ⟨ha, hb, q⟩
  exact ⟨z, hI.1.1.1 _ (hI.1.2.1.2.2.2.2.1 _ _ z).1⟩
theorem wd_pos (hI : IS S n np A dd hh) (hB : BI S n np nl T) {a : Nat} (ha : a < n) : 0 < wd S a :=
  unR_pos 8 (fun b hb q => by have := hB.2.2.1 b (se_n hI ha hb q).2; show 0 < N S 3 b; omega)
theorem root_fin (hI : IS S n np A dd hh) (hB : BI S n np nl T) {r : Nat} (hr : vrt S n r) (hst : vst S n r = vR S r) : tabN S r np (N S 21 r) (N S 3 r) 0 < 1048576 ∧ vtr S n r = vR S r := by
  have hrn := hr.1
  have h8 := hB.1.2.1
  obtain ⟨D, E, NIh, TIh, KIh, PIh⟩ := hI
  have R1 := (E.1.2.2.2.2.1 r hrn).1
  have K := KIh r hrn
  have np' : ∀ p, ¬ vpa S n r p := fun p q => D.2.2.1.2.2.2.2.2.2.2.2.2.2 r p hr q
  have c := K.2.2.2.2 hst
  have own := (K.2.2.1 (by omega)).2 r (by omega) (Or.inr rfl)
  rcases K.1 r (by omega) with q | ⟨-, v, hv, q⟩
  · exact absurd q own
  have hv4 := (hB.2.1 r (by omega)).2
  refine ⟨?_, E.2.2.2.2.2.1 r hr hst⟩
  refine Nat.lt_of_le_of_lt ((bl_min (N S 3 r)).1 v hv) ?_
  refine Nat.lt_of_le_of_lt (Nat.le_of_eq ?_) c
  refine cost_cg (by omega) (bi_pr hB) (fun x hx => ?_)
  by_cases e : x = r
  · rw [e, upd_at]; exact (N_nI q (by omega)).symm
  · rw [upd_ne e]
    have z := K.2.2.2.1 np' x hx e
    have : kv S r x = 0 := by show (S 31 (8 * r + x)).toNatClampNeg = 0; rw [z]; rfl
    rw [this]
    unfold dgR
    split
    · rw [Nat.zero_div, Nat.zero_mod]
    · rfl
theorem total_eq (h : INV S C n np nl T sz) : (if stC C n = 1 then smC C n else -1) = (if stF S n = 1 then sumF S n else -1) ∧ (stC C n = 1 → ∀ k, k < n → rootC C k → ∃ w, 0 < w ∧ w ≤ 256 ∧ C 57 k = nI w) := by
  have k := inv_sc h
  have e := (inv_st h).1
  rw [e]
  have key : stF S n = 1 → ∀ a, a < n → (rootC C a ↔ vrt S n a) ∧ (vrt S n a → C 58 (256 * a + 0) = S 26 (256 * a) ∧ ∃ w, 0 < w ∧ w ≤ 256 ∧ C 57 a = nI w) := fun hs a ha => by
    obtain ⟨s2, sall⟩ := st_1 hs
    obtain ⟨q, r, k1, k2, k3, k4, k5⟩ := (inv_P h s2).1.1 a ha
    have hQ := h.2.1.2.2.2.2.2.2.2.2.1
    have y := hQ.2 q (by omega) (hQ.1 a q ha (by omega) k3)
    have nq : (S 10 a).toNatClampNeg = q := N_nI k3 (by omega)
    refine ⟨?_, fun hr => ?_⟩
    · unfold rootC vrt
      rw [(h.2.1.2.1 a ha).2.2.1, show N S 10 a = q from nq, nq, y.1]
      exact ⟨fun z => ⟨ha, z.2⟩, fun z => ⟨by rw [k3]; exact nI_m1' (by omega), z.2⟩⟩
    · obtain ⟨A, dd, hI, -⟩ := inv_run h s2
      have hset := (sall a ha).1.2
      have hst : vst S n a = vR S a := by
        unfold vst vR; rw [if_pos ha]
        show (S 28 a).toNatClampNeg = _
        rw [hset]
      obtain ⟨f1, f2⟩ := root_fin hI h.1 hr hst
      have R1 := (hI.2.1.1.2.2.2.2.1 a ha).1
      have t := hI.2.2.2.1.1 a (by omega)
      have w0 := wd_pos hI h.1 ha
      have n23 : S 23 a ≠ 0 := fun z => by
        have : vtr S n a = 0 := by unfold vtr; rw [if_pos ha]; show (S 23 a).toNatClampNeg = 0; rw [z]; rfl
        omega
      have mt := h.2.1.2.2.2.2.1 a ha
      have c0 := (t.2.2.2 0 w0).1
      refine ⟨?_, wd S a, w0, t.2.2.1, ?_⟩
      · rw [mt.2 n23 0 (by show 0 < (S 25 a).toNatClampNeg; rw [t.2.1, nI_clamp (by have := t.2.2.1; omega)]; exact w0)]
        show un (S 26 (256 * a)) = _
        have c1 : S 26 (256 * a) = nI (tabN S a np (N S 21 a) (N S 3 a) 0) := c0
        have ne : S 26 (256 * a) ≠ 1048576 := fun z => by
          rw [c1] at z
          have := nI_inj (b := 1048576) (by omega) (by omega) z
          omega
        unfold un
        rw [if_neg ne]
      · rw [mt.1, if_neg n23]; exact t.2.1
  refine ⟨?_, fun hs a ha hr => ((key hs a ha).2 ((key hs a ha).1.mp hr)).2⟩
  by_cases hs : stF S n = 1
  · rw [if_pos hs, if_pos hs]
    have : ∀ j, j ≤ n → smC C j = sumF S j := by
      intro j
      induction j with
      | zero => intro _; rfl
      | succ j ih =>
        intro hj
        have kj := key hs j (by omega)
        rw [smC, sumF, ih (by omega)]
        by_cases z : vrt S n j
        · rw [if_pos (kj.1.mpr z), if_pos z.2, (kj.2 z).1]
        · rw [if_neg (fun y => z (kj.1.mp y)), if_neg (fun y => z ⟨by omega, y⟩)]
    exact this n (Nat.le_refl _)
  · rw [if_neg hs, if_neg hs]
end
