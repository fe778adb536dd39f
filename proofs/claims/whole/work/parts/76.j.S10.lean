/-! SIMULATION S10. Laid by wip/whole/gen/p71.py -/
section
variable {S S1 C : mS} {n np nl T : Nat} {sz : Nat → Nat → Nat} {A : Rl} {dd : Nat → Nat} {hh : Nat → Prop} {hx : Nat}
theorem IX8 (h8 : n ≤ 8) : IX S n np A dd hh 8 ↔ IS S n np A dd hh := ⟨fun h => IX_to h (by unfold vtr; rw [if_neg (by omega)]), fun h => IX_of h⟩
theorem Z5_r {T' : mS} {sz' : Nat → Nat → Nat} (h : Z5 S n sz) (e : T' 10 = S 10) (hz : ∀ q, sz' 5 q = sz 5 q) : Z5 T' n sz' := by
  unfold Z5 at *; rw [e]; simp only [hz]; exact h
theorem CD_r {T' : mS} (h : CD S n) (e20 : T' 20 = S 20) (e21 : T' 21 = S 21) : CD T' n := by
  unfold CD N at *; rw [e20, e21]; exact h
abbrev nvE (e : Nat → Int32) : Nat → Nat := fun x => (e x).toNatClampNeg
abbrev FC (S : mS) (np a : Nat) (e : Nat → Int32) : Nat → Nat := fun k => costN S (upn (nvE e) a k) a np (N S 21 a)
theorem cho_W {a v : Nat} {r : Int32} {e g : Nat → Int32} (W : WI S C n np nl T sz A dd hh hx 8) (h8 : n ≤ 8) (ha : a < n) (hr : r = nI (vR S a)) (hR : vR S a ≤ T) (ht : 0 < vtr S n a) (hn1 : vrt S n a → vtr S n a = vR S a ∧ vnr S n a ≠ vR S a) (hp : ∀ q, vrt S n q → vsp S q a → q ≠ a → vst S n q = vR S q) (hpp : ∀ p, vpa S n a p → vst S n p = vR S p) (hlt : vst S n a < vR S a)
    (hrow : ∀ j, j ≠ 31 → S1 j = S j) (f31 : ∀ i, S1 31 i = if 8 * a ≤ i ∧ i < 8 * a + 8 ∧ i ≠ 8 * a + a then e (i - 8 * a) else if i = 8 * a + a then S1 31 i else S 31 i)
    (he : rowK S n e) (heA : ∀ x, x < 8 → A x a → e x ≠ -1) (her : (∀ p, ¬ vpa S n a p) → ∀ x, x < 8 → x ≠ a → e x = -1) (hge : ∀ x, x < 8 → x ≠ a → g x = e x)
    (hfin : blR (FC S np a e) (N S 3 a) < 1048576) (hv : nI v = bvR (FC S np a e) (N S 3 a)) (hv4 : v < 4) :
    WI (chC S1 a r np) (scC (cs0 C a v r g) a nl (N S 21 a)) n np (snl nl (N S 21 a)) T (lu sz 8 0 (snl nl (N S 21 a))) A dd hh hx 8 := by
  have a8 : a < 8 := by omega
  obtain ⟨w1, B, M, IXh, LVs, CDh, Z5h⟩ := W
  have hI := (IX8 h8).mp IXh
  obtain ⟨v', hv1, hv2, hv3, hv5⟩ := (bl_min (F := FC S np a e) (N S 3 a)).2 hfin
  have hz4 := (B.2.1 a a8).2
  have ev : v = v' := nI_inj (by omega) (by omega) (hv.trans hv5)
  have BT := B.2.2.2.2.2.2.2.2.2.2.2
  have R31 : vR S a < 2 ^ 31 := by omega
  have R1 := (hI.2.1.1.2.2.2.2.1 a ha).1
  have hcg : ∀ y, y < 8 → ∀ cc, ∀ nv nw : Nat → Nat, (∀ x, x < 8 → nv x = nw x) → costN S nv y np cc = costN S nw y np cc := fun y hy cc nv nw h => cost_cg hy (bi_pr B) h
  have n21 : N S1 21 a = N S 21 a := by simp only [N, hrow 21 (by decide)]
  have n3 : N S1 3 a = N S 3 a := by simp only [N, hrow 3 (by decide)]
  have cS1 : ∀ nv y cc, costN S1 nv y np cc = costN S nv y np cc := fun nv y cc => by
    have : s2N S1 nv y np cc = s2N S nv y np cc := by
      simp only [s2N, s1N, hrow 3 (by decide), hrow 4 (by decide), hrow 6 (by decide), hrow 7 (by decide), hrow 8 (by decide), hrow 17 (by decide), hrow 20 (by decide), hrow 24 (by decide), hrow 26 (by decide)]
    show (if s2N S1 nv y np cc ≤ 1048576 then s2N S1 nv y np cc else 1048576) = _
    rw [this]
  have s31 : ∀ x, x < 8 → x ≠ a → S1 31 (8 * a + x) = e x := fun x hx hxa => by
    rw [f31, if_pos ⟨by omega, by omega, by omega⟩, show 8 * a + x - 8 * a = x by omega]
  have Fe : (fun k => costN S1 (upn (fun b => N S1 31 (8 * a + b)) a k) a np (N S 21 a)) = FC S np a e := by
    funext k
    rw [cS1]
    refine hcg a a8 _ _ _ (fun x hx => ?_)
    by_cases q : x = a
    · rw [q, upd_at, upd_at]
    · rw [upd_ne q, upd_ne q]; show (S1 31 (8 * a + x)).toNatClampNeg = _; rw [s31 x hx q]
  have ech : chC S1 a r np = pcF (mu (mu (mu (mu (mu (rsR S1 32 8 (fun b => nI (N S1 31 (8 * a + b)))) 33 0 (nI (blR (FC S np a e) (N S 3 a)))) 32 a (nI (N S 3 a - 1))) 30 a (nI v)) 31 (8 * a + a) (nI v)) 28 a r) a (N S 21 a) := by
    show chS S1 a r np (N S1 21 a) (N S1 3 a) = _
    rw [n21, n3]
    unfold chS
    rw [Fe, ← hv]
  rw [ech]
  generalize hT : mu (mu (mu (mu (mu (rsR S1 32 8 (fun b => nI (N S1 31 (8 * a + b)))) 33 0 (nI (blR (FC S np a e) (N S 3 a)))) 32 a (nI (N S 3 a - 1))) 30 a (nI v)) 31 (8 * a + a) (nI v)) 28 a r = T0
  have hr0 : ∀ j, j ≠ 28 → j ≠ 30 → j ≠ 31 → j ≠ 32 → j ≠ 33 → T0 j = S j := fun j q1 q2 q3 q4 q5 => by
    rw [← hT, mu_row q1, mu_row q3, mu_row q2, mu_row q4, mu_row q5, ← hrow j q3]
    funext i; simp [rsR, q4]
  have g28 : ∀ x, T0 28 x = if x = a then r else S 28 x := fun x => by rw [← hT, ← hrow 28 (by decide)]; simp [mu, rsR]
  have g30 : ∀ x, T0 30 x = if x = a then nI v else S 30 x := fun x => by rw [← hT, ← hrow 30 (by decide)]; simp [mu, rsR]
  have g31 : ∀ i, T0 31 i = if 8 * a ≤ i ∧ i < 8 * a + 8 then (if i = 8 * a + a then nI v else e (i - 8 * a)) else S 31 i := fun i => by
    have : T0 31 i = if i = 8 * a + a then nI v else S1 31 i := by rw [← hT]; simp [mu, rsR]
    rw [this]
    by_cases q : i = 8 * a + a
    · rw [if_pos q, if_pos (by omega), if_pos q]
    · rw [if_neg q, f31]
      by_cases q2 : 8 * a ≤ i ∧ i < 8 * a + 8
      · rw [if_pos ⟨q2.1, q2.2, q⟩, if_pos q2, if_neg q]
      · rw [if_neg (fun z => q2 ⟨z.1, z.2.1⟩), if_neg q, if_neg q2]
  have g28' : ∀ x, T0 28 x = if x = a then nI (vR S a) else S 28 x := fun x => by rw [g28, hr]
  have r0 : r ≠ 0 := by rw [hr]; exact nI_ne0 (by omega) (by omega)
  have hI2 : IS T0 n np A dd hh := IS_cho (a := a) (v := v) (e := e) hI h8 ha R31 (fun j _ q1 q2 q3 => by
      by_cases q4 : j = 32
      · subst q4; rename_i z; exact absurd z (by decide)
      · by_cases q5 : j = 33
        · subst q5; rename_i z; exact absurd z (by decide)
        · exact hr0 j q1 q2 q3 q4 q5) g28' g30 g31 (by rw [ev]; exact hv1) (by omega) he heA her (by
      have : FC S np a e v' < 1048576 := by rw [hv2]; exact hfin
      refine Nat.lt_of_le_of_lt (Nat.le_of_eq ?_) this
      refine hcg a a8 _ _ _ (fun x hx => ?_)
      show (if x = a then v else (e x).toNatClampNeg) = upn (nvE e) a v' x
      rw [ev]; rfl) (fun y hy nv nw h => hcg y (by omega) _ _ _ h) ht hn1 hp hpp
  have SM : SIM T0 (cs0 C a v r g) n np nl sz hx := SIM_cho h8 ha r0 hr0 g28 (fun i => by
      rw [g31]
      by_cases q : 8 * a ≤ i ∧ i < 8 * a + 8
      · rw [if_pos q, if_pos q]
        by_cases q2 : i = 8 * a + a
        · rw [if_pos q2, if_pos q2]
        · rw [if_neg q2, if_neg q2, hge (i - 8 * a) (by omega) (by omega)]
      · rw [if_neg q, if_neg q]) M
  have BB : BI T0 n np nl T := BI_cho (a := a) hR hr0 g28' B
  have n21' : N T0 21 a = N S 21 a := by simp only [N, hr0 21 (by decide) (by decide) (by decide) (by decide) (by decide)]
  have vR' : vR T0 a = vR S a := by
    unfold vR N; rw [hr0 10 (by decide) (by decide) (by decide) (by decide) (by decide), hr0 12 (by decide) (by decide) (by decide) (by decide) (by decide)]
  have WW : WI T0 (cs0 C a v r g) n np nl T sz A dd hh hx 8 := by
    refine ⟨by rw [hr0 2 (by decide) (by decide) (by decide) (by decide) (by decide)]; exact w1, BB, SM, (IX8 h8).mpr hI2, fun k hk => ?_, CD_r CDh (hr0 20 (by decide) (by decide) (by decide) (by decide) (by decide)) (hr0 21 (by decide) (by decide) (by decide) (by decide) (by decide)), Z5_r Z5h (hr0 10 (by decide) (by decide) (by decide) (by decide) (by decide)) (fun _ => rfl)⟩
    have := LVs k hk
    unfold LVk at *
    rw [hr0 35 (by decide) (by decide) (by decide) (by decide) (by decide), hr0 36 (by decide) (by decide) (by decide) (by decide) (by decide), hr0 37 (by decide) (by decide) (by decide) (by decide) (by decide), hr0 38 (by decide) (by decide) (by decide) (by decide) (by decide), hr0 39 (by decide) (by decide) (by decide) (by decide) (by decide), hr0 40 (by decide) (by decide) (by decide) (by decide) (by decide), hr0 41 (by decide) (by decide) (by decide) (by decide) (by decide)]
    exact LV_cho (a := a) hI.2.1 hI.1 h8 ha R31 hlt (fun j _ q1 q2 q3 => by
      by_cases q4 : j = 32
      · subst q4; rename_i z; exact absurd z (by decide)
      · by_cases q5 : j = 33
        · subst q5; rename_i z; exact absurd z (by decide)
        · exact hr0 j q1 q2 q3 q4 q5) g28' (fun i hi => by rw [g31, if_neg hi]) this
  have res := choices_W WW ha h8 (by
    unfold vst; rw [if_pos ha]; show 1 ≤ (T0 28 a).toNatClampNeg; rw [g28', if_pos rfl, nI_clamp R31]; exact R1) (N S 21 a) (by rw [n21']; exact Nat.le_refl _)
  exact res
end
