/-! SIMULATION S12. Laid by wip/whole/gen/p71.py -/
section
variable {S C : mS} {n np nl T : Nat} {sz : Nat → Nat → Nat} {A : Rl} {dd : Nat → Nat} {hh : Nat → Prop} {hx ex : Nat}
theorem cw_of (B : BI S n np nl T) (M : SIM S C n np nl sz hx) (D : vDI S n A hh) {a : Nat} (ha : a < n) (ht : vth S n a) : cwC sz C n a np (N S 21 a) := by
  have n8 := B.1.2.1
  have cn := chn_th B D ha ht
  have mc := M.2.2.2.1 a ha
  refine ⟨M.1.1, M.1.2.2.2.2.2.1, n8, ha, M.1.2.1, M.1.2.2.2.2.2.2.1, B.1.2.2.2.1, by rw [mc.1, cn], by rw [mc.2.1, cn], fun p hp => ?_, fun k hk => ?_⟩
  · obtain ⟨f, g, h1, h2, h3, h4⟩ := bi_fg B p hp
    obtain ⟨m1, m2, -⟩ := M.2.2.2.2.2.2.2.1 p hp f g h1 h2 h3 h4
    have e1 : N C 62 p = if f ≤ g then f else g := N_nI m1 (by split <;> omega)
    have e2 : N C 63 p = if f ≤ g then g else f := N_nI m2 (by split <;> omega)
    rw [e1, e2]
    exact ⟨m1, by split <;> omega, m2, by split <;> omega⟩
  · obtain ⟨c, hc, ec⟩ := B.2.2.2.2.2.2.2.2.2.2.1 a k ha hk
    have gk := (mc.2.2 k (by rw [cn]; exact hk)).1
    refine ⟨c, hc, ?_⟩
    rw [gk]; show (if k < N S 21 a then _ else _) = _; rw [if_pos hk, ec]
theorem z3_of (B : BI S n np nl T) (M : SIM S C n np nl sz hx) : ∀ b, b < n → C 3 b = nI (N C 3 b) ∧ N C 3 b ≤ 4 ∧ 1 ≤ N C 3 b := fun b hb => by
  have n8 := B.1.2.1
  have e := (M.2.1 b hb).1
  have q := B.2.1 b (by omega)
  have q2 := B.2.2.1 b hb
  have e' : N C 3 b = N S 3 b := by simp only [N, e]
  rw [e', e]
  exact ⟨q.1, q.2, by omega⟩
theorem se_lt (D : vDI S n A hh) {a b : Nat} (ha : a < n) (hb : b < 8) (q : cI (S 22 a) (nI b)) : b < n := D.1.1 _ (D.2.1.2.2.2.2.1 _ _ (D.2.2.2.1.2.1 a b ⟨ha, hb, q⟩)).1
theorem wd_C (B : BI S n np nl T) (M : SIM S C n np nl sz hx) (D : vDI S n A hh) {a : Nat} (ha : a < n) : wd S a = unR (C 3) (C 22 a) n := by
  have n8 := B.1.2.1
  show unR (S 3) (S 22 a) 8 = _
  rw [(M.2.1 a ha).2.2.2.2.2.2.2.1, unR_out (n := n) (fun b hb q => se_lt D ha hb q) 8 n8 (Nat.le_refl _)]
  exact unR_z n (fun b hb => ((M.2.1 b hb).1).symm)
theorem dg_C (B : BI S n np nl T) (M : SIM S C n np nl sz hx) (D : vDI S n A hh) {a i : Nat} (ha : a < n) : ∀ b, b < 8 → dgR (C 3) (C 22 a) i b = dgR (S 3) (S 22 a) i b := fun b hb => by
  have n8 := B.1.2.1
  unfold dgR
  rw [(M.2.1 a ha).2.2.2.2.2.2.2.1]
  by_cases q : cI (S 22 a) (nI b)
  · have hbn := se_lt D ha hb q
    rw [if_pos q, if_pos q, (M.2.1 b hbn).1, unR_z b (fun x hx => (M.2.1 x (by omega)).1)]
  · rw [if_neg q, if_neg q]
theorem mt_of {a w : Nat} (B : BI S n np nl T) (M : SIM S C n np nl sz hx) (I : IX S n np A dd hh ex) (ha : a < n) (ht : vth S n a) (hch : ∀ c, vch S n a c → 0 < vtq S n c) (hw256 : ∀ c, 0 < vtq S n c → wd S c ≤ 256) :
    mtT C a n np (N S 21 a) (N S 3 a) w (fun i => un (nI (tabN S a np (N S 21 a) (N S 3 a) i))) ∧ ∀ i, tabN S a np (N S 21 a) (N S 3 a) i < 1048576 → tabN S a np (N S 21 a) (N S 3 a) i ≤ bnd S dd a := by
  have n8 := B.1.2.1
  have D := I.1
  have nvS : ∀ i k, k < N S 3 a → nvok S n (upn (dgR (S 3) (S 22 a) i) a k) := fun i k hk => nv_dg B.2.1 B.2.2.1 ha hk (fun b hb q => se_lt D ha hb q)
  have nvC : ∀ i k, k < N S 3 a → nvok S n (upn (dgR (C 3) (C 22 a) i) a k) := fun i k hk b hb => by
    have := nvS i k hk b hb
    unfold upn at *
    by_cases q : b = a
    · rw [if_pos q] at this ⊢; exact this
    · rw [if_neg q] at this ⊢; rw [dg_C B M D ha b hb]; exact this
  have cgE : ∀ i k, costN S (upn (dgR (C 3) (C 22 a) i) a k) a np (N S 21 a) = costN S (upn (dgR (S 3) (S 22 a) i) a k) a np (N S 21 a) := fun i k => cost_cg (by omega) (bi_pr B) (fun x hx => by
    unfold upn; split
    · rfl
    · exact dg_C B M D ha x hx)
  have key : ∀ i k, k < N S 3 a → ∀ g : Nat → Int32, (∀ b, b < n → cI (C 22 a) (nI b) → g b = nI (dgR (C 3) (C 22 a) i b)) → costC C (upn (dgR (C 3) (C 22 a) i) a k) (gUp g a k) a n np (N S 21 a) = un (nI (costN S (upn (dgR (S 3) (S 22 a) i) a k) a np (N S 21 a))) ∧ (costN S (upn (dgR (S 3) (S 22 a) i) a k) a np (N S 21 a) < 1048576 → costN S (upn (dgR (S 3) (S 22 a) i) a k) a np (N S 21 a) ≤ bnd S dd a) := fun i k hk g hg => by
    have := cost_CS (g := gUp g a k) B M I ha ht hch hw256 (nvC i k hk) (fun x hx q => by
      unfold gUp upn
      by_cases z : x = a
      · rw [if_pos z, if_pos z]
      · rw [if_neg z, if_neg z]
        refine hg x hx ?_
        rw [(M.2.1 a ha).2.2.2.2.2.2.2.1]
        exact (q.resolve_right z).2.2)
    rw [cgE] at this
    exact this
  refine ⟨fun i hi g hg => ?_, fun i q => ?_⟩
  · exact lc_eq (F := fun k => costN S (upn (dgR (S 3) (S 22 a) i) a k) a np (N S 21 a)) (z := N S 3 a) (fun v hv => (key i v hv g hg).1) (fun v hv => by show (if _ then _ else _) ≤ _; split <;> omega) (N S 3 a) (Nat.le_refl _)
  · obtain ⟨v, h1, h2, -, -⟩ := (bl_min (F := fun k => costN S (upn (dgR (S 3) (S 22 a) i) a k) a np (N S 21 a)) (N S 3 a)).2 q
    have e : tabN S a np (N S 21 a) (N S 3 a) i = costN S (upn (dgR (S 3) (S 22 a) i) a v) a np (N S 21 a) := h2.symm
    rw [e] at q ⊢
    exact (key i v h1 (fun b => nI (dgR (C 3) (C 22 a) i b)) (fun _ _ _ => rfl)).2 q
theorem up_of (B : BI S n np nl T) (M : SIM S C n np nl sz hx) (D : vDI S n A hh) {a : Nat} (ha : a < n) (ht : vth S n a) : mtU C a n np := fun p hp hu => by
  have n8 := B.1.2.1
  obtain ⟨f, g, h1, h2, h3, h4⟩ := bi_fg B p hp
  have hu' := (pr_up (M.2.1 a ha).2.2.2.2.2.1 (pr_of B M.2.2.2.2.2.2.2.1 p hp)).mp hu
  obtain ⟨m1, m2, -⟩ := M.2.2.2.2.2.2.2.1 p hp f g h1 h2 h3 h4
  have e1 : N C 62 p = if f ≤ g then f else g := N_nI m1 (by split <;> omega)
  have e2 : N C 63 p = if f ≤ g then g else f := N_nI m2 (by split <;> omega)
  have one : ∀ x, x < 8 → cI (S 17 a) (nI x) → x < n ∧ cI (C 22 a) (nI x) := fun x hx q => by
    have z := D.2.2.2.1.2.2.1 a x ht ⟨ha, hx, q⟩
    rw [(M.2.1 a ha).2.2.2.2.2.2.2.1]
    exact ⟨se_lt D ha hx z.2.2, z.2.2⟩
  have both : (f = a ∨ (f < n ∧ cI (C 22 a) (nI f))) ∧ (g = a ∨ (g < n ∧ cI (C 22 a) (nI g))) := by
    unfold upN at hu'
    rw [h3, h4] at hu'
    rcases hu' with ⟨q1, q2⟩ | ⟨q1, q2⟩
    · exact ⟨Or.inl (nI_inj (by omega) (by omega) q1), Or.inr (one g h2 q2)⟩
    · exact ⟨Or.inr (one f h1 q2), Or.inl (nI_inj (by omega) (by omega) q1)⟩
  rw [e1, e2]
  by_cases z : f ≤ g
  · rw [if_pos z, if_pos z]; exact both
  · rw [if_neg z, if_neg z]; exact ⟨both.2, both.1⟩
theorem rt_C (M : SIM S C n np nl sz hx) (P : PI S n) {a : Nat} (ha : a < n) (h8 : n ≤ 8) : (rootC C a ↔ vrt S n a) ∧ ptC sz C a := by
  obtain ⟨q, r, k1, k2, k3, k4, k5⟩ := P.1 a ha
  have hQ := M.2.2.2.2.2.2.2.2.1
  have s5 := hQ.1 a q ha (by omega) k3
  have y := hQ.2 q (by omega) s5
  have nq : (S 10 a).toNatClampNeg = q := N_nI k3 (by omega)
  refine ⟨?_, q, r, by rw [(M.2.1 a ha).2.2.1]; exact k3, by omega, s5, by rw [y.1]; exact k4, by rw [M.1.2.2.2.2.2.1]; exact k2⟩
  unfold rootC vrt
  rw [(M.2.1 a ha).2.2.1, show N S 10 a = q from nq, nq, y.1]
  exact ⟨fun z => ⟨ha, z.2⟩, fun z => ⟨by rw [k3]; exact nI_m1' (by omega), z.2⟩⟩
theorem no_up (B : BI S n np nl T) (M : SIM S C n np nl sz hx) (D : vDI S n A hh) {a : Nat} (ha : a < n) (hr : vrt S n a) : ∀ p, p < np → ¬ upC C a p := fun p hp hu => by
  have n8 := B.1.2.1
  obtain ⟨f, g, h1, h2, h3, h4⟩ := bi_fg B p hp
  have hu' := (pr_up (M.2.1 a ha).2.2.2.2.2.1 (pr_of B M.2.2.2.2.2.2.2.1 p hp)).mp hu
  have none : ∀ x, x < 8 → ¬ cI (S 17 a) (nI x) := fun x hx q => by
    have z := D.2.2.2.1.1 a x ⟨ha, hx, q⟩
    have k := D.2.1.2.2.2.2.1 _ _ z
    rcases D.2.1.2.1 a k.2.1 with ⟨p', q1⟩ | ⟨-, q1⟩
    · exact D.2.2.1.2.2.2.2.2.2.2.2.2.2 a p' hr q1
    · exact q1 x z
  unfold upN at hu'
  rw [h3, h4] at hu'
  rcases hu' with ⟨q1, q2⟩ | ⟨q1, q2⟩
  · exact none g h2 q2
  · exact none f h1 q2
end
