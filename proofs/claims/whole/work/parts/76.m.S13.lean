/-! SIMULATION S13. Laid by wip/whole/gen/p71.py -/
section
variable {S C : mS} {n np nl T : Nat} {sz : Nat → Nat → Nat} {A : Rl} {dd : Nat → Nat} {hh : Nat → Prop} {hx ex : Nat}
theorem un_inj {m k : Nat} (hm : m ≤ 1048576) (hk : k ≤ 1048576) (h : un (nI m) = un (nI k)) : m = k := by
  have e : ∀ j, j ≤ 1048576 → un (nI j) = if j = 1048576 then -2 else nI j := fun j hj => by
    by_cases q : j = 1048576
    · rw [if_pos q, q]; rfl
    · have k : nI j ≠ 1048576 := fun q' => q (nI_inj (b := 1048576) (by omega) (by omega) q')
      rw [if_neg q, un, if_neg k]
  rw [e m hm, e k hk] at h
  by_cases q1 : m = 1048576
  · by_cases q2 : k = 1048576
    · omega
    · rw [if_pos q1, if_neg q2] at h; exact absurd h.symm (nI_ne2 (by omega))
  · by_cases q2 : k = 1048576
    · rw [if_neg q1, if_pos q2] at h; exact absurd h (nI_ne2 (by omega))
    · rw [if_neg q1, if_neg q2] at h; exact nI_inj (by omega) (by omega) h
theorem pick_v {F : Nat → Nat} {z v : Nat} (hF : ∀ k, F k ≤ 1048576) (hfin : blR F z < 1048576) (hv : v < z) (h1 : ∀ u, u < v → un (nI (F u)) ≠ un (nI (blR F z))) (h2 : v + 1 = z ∨ un (nI (F v)) = un (nI (blR F z))) : nI v = bvR F z := by
  obtain ⟨v', q1, q2, q3, q4⟩ := (bl_min (F := F) z).2 hfin
  have : v = v' := by
    rcases Nat.lt_trichotomy v v' with q | q | q
    · rcases h2 with h2 | h2
      · omega
      · have := un_inj (hF v) (by omega) h2
        have := q3 v q
        omega
    · exact q
    · exact absurd (by rw [q2]) (h1 v' q)
  rw [this, q4]
theorem vR_le (B : BI S n np nl T) (P : PI S n) {a : Nat} (ha : a < n) : vR S a ≤ T := by
  have n8 := B.1.2.1
  obtain ⟨q, r, k1, k2, k3, -⟩ := P.1 a ha
  have nq : N S 10 a = q := N_nI k3 (by omega)
  unfold vR; rw [nq]
  exact (B.2.2.2.2.2.2.2.2.2.1 q (by omega)).2.2.2.2.2.2.1.2
theorem ha_of {a : Nat} (B : BI S n np nl T) (ha : a < n) (ht : vth S n a) (hch : ∀ c, vch S n a c → 0 < vtq S n c) : haN S a (N S 21 a) = true := by
  have n8 := B.1.2.1
  have : ∀ k, k ≤ N S 21 a → haR (S 14 a) (S 20) (S 23) a k = true := by
    intro k
    induction k with
    | zero => intro _; exact decide_eq_true ht.2
    | succ k ih =>
      intro hk
      obtain ⟨c, hc, ec⟩ := B.2.2.2.2.2.2.2.2.2.2.1 a k ha (by omega)
      have q := hch c ⟨ha, by omega, k, by omega, ec⟩
      rw [haR, ih (by omega), Bool.true_and]
      refine decide_eq_true ?_
      rw [ec, nI_clamp (by omega)]
      have nn := (B.2.2.2.2.2.2.2.2.2.1 c (by omega)).2.2.2.2.2.2.2.2.2.2
      unfold vtq at q; rw [if_pos hc] at q
      rw [nn.1]
      have := nn.2
      have BT := B.2.2.2.2.2.2.2.2.2.2.2
      exact nI_ge (a := 0) q (by omega)
  exact this _ (Nat.le_refl _)
theorem plI_0 {z : Nat → Int32} {y : Int32} {g : Nat → Int32} : ∀ k, (∀ b, b < k → ¬ cI y (nI b)) → plI z y g k = 0
  | 0, _ => rfl
  | k + 1, h => by rw [plI, if_neg (h k (by omega)), plI_0 k (fun b hb => h b (by omega))]
def QMP (C : mS) (sz : Nat → Nat → Nat) (a : Nat) (r : Int32) (n np cc nl z w : Nat) (t : Nat → Int32) (sz' : Nat → Nat → Nat) (C' : mS) : Prop :=
  (256 < w ∧ sz' = sz ∧ C' = mu C 15 a 1) ∨ (w ≤ 256 ∧ ∃ D : mS, (∀ j, j ≠ 32 → D j = C j) ∧ ((rootC C a ∧ chQ (mtC D a w r t) sz a r n np cc nl z (fun _ => 0) (fun _ => -1) sz' C') ∨
    (¬ rootC C a ∧ ((C 16 a = -1 ∧ sz' = sz ∧ C' = mtC D a w r t) ∨ (C 16 a ≠ -1 ∧ sz' = lu sz 8 0 (nlS nl) ∧ C' = sndC (mtC D a w r t) nl 2 (nI a) (C 16 a) r (nI w) (fun i => mtC D a w r t 58 (256 * a + i)))))))
theorem work_W {a : Nat} {r : Int32} {sz' : Nat → Nat → Nat} {C' : mS} (W : WI S C n np nl T sz A dd hh 8 a) (ha : a < n) (hr : r = nI (vR S a)) (ht : vth S n a) (hch : ∀ c, vch S n a c → 0 < vtq S n c) (hw256 : ∀ c, 0 < vtq S n c → wd S c ≤ 256) (hlt : vtr S n a < vR S a)
    (hu : 2 ≤ vR S a → ∀ x y, vpa S n x y → vsp S x a → vtq S n x = vtr S n x) (hA : ∀ x, A x a → vtr S n x < vR S a) (h25 : 0 < vtr S n a → S 25 a = nI (wd S a) ∧ wd S a ≤ 256)
    (hQ : QMP C sz a r n np (N S 21 a) nl (N S 3 a) (wd S a) (fun i => un (nI (tabN S a np (N S 21 a) (N S 3 a) i))) sz' C') :
    ∃ nl', WI (wkC S a r np) C' n np nl' T sz' A dd hh 8 8 := by
  obtain ⟨w1, B, M, IXh, LVs, CDh, Z5h⟩ := W
  have n8 := B.1.2.1
  have a8 : a < 8 := by omega
  obtain ⟨D, E, NIh, TXh, KIh, PIh⟩ := id IXh
  have BT := B.2.2.2.2.2.2.2.2.2.2.2
  have hR := vR_le B PIh ha
  have hhd := D.1.2.1 a ht
  have R1 := (E.1.2.2.2.2.1 a ha).1
  have hha := ha_of B ha ht hch
  obtain ⟨mt1, mt2⟩ := mt_of (w := wd S a) B M IXh ha ht hch hw256
  have st1 : vst S n a ≤ vR S a := (E.2.2.2.1 a).1
  have stlt : vrt S n a → vst S n a < vR S a := fun q => by
    rcases Nat.lt_or_ge (vst S n a) (vR S a) with z | z
    · exact z
    · have := E.2.2.2.2.2.1 a q (by omega); omega
  have nrlt : vrt S n a → vnr S n a ≠ vR S a := fun q e => by
    have := ((E.2.2.2.2.2.2.1 a).2 q e).1; omega
  have r0 : r ≠ 0 := by rw [hr]; exact nI_ne0 (by omega) (by omega)
  have rtC := rt_C M PIh ha n8
  have noP : vrt S n a ↔ S 16 a = -1 := by
    constructor
    · intro q
      rcases (B.2.2.2.2.2.2.2.2.2.1 a a8).2.2.2.1 with z | ⟨b, z1, z2⟩
      · exact z
      · exact absurd ⟨ha, by omega, z2⟩ (D.2.2.1.2.2.2.2.2.2.2.2.2.2 a b q)
    · intro q
      rcases D.2.1.2.1 a hhd with ⟨p, z⟩ | ⟨z, -⟩
      · exact absurd (q.symm.trans z.2.2).symm (nI_m1' (by have := z.2.1; omega))
      · exact z
  have ewk : wkC S a r np = if 256 < wd S a then mu S 15 a 1 else if ¬ S 16 a < 0 then ptS (mkS S a r np (N S 21 a) (N S 3 a) (wd S a)) a else if tabN S a np (N S 21 a) (N S 3 a) 0 = 1048576 then mu (mkS S a r np (N S 21 a) (N S 3 a) (wd S a)) 29 a r else chS (mkS S a r np (N S 21 a) (N S 3 a) (wd S a)) a r np (N S 21 a) (N S 3 a) := by
    show wkS S a r np (N S 21 a) (N S 3 a) (unN S (S 22 a) 8) = _
    unfold wkS; rw [if_pos hha]
  rw [ewk]
  rcases hQ with ⟨hw, rfl, rfl⟩ | ⟨hw, D', hD', hQ⟩
  · rw [if_pos hw]
    have v0 : vtr S n a = 0 := Nat.eq_zero_of_not_pos (fun q => by have := (h25 q).2; omega)
    have row : ∀ j, j ≠ 15 → (mu S 15 a 1) j = S j := fun j q => mu_row q
    refine ⟨nl, by rw [row 2 (by decide)]; exact w1, BI_wide B, SIM_wide M, ?_, fun k hk => ?_, CD_r CDh (row 20 (by decide)) (row 21 (by decide)), Z5_r Z5h (row 10 (by decide)) (fun _ => rfl)⟩
    · rw [IX_rows (fun j _ q _ _ => row j q)]
      exact (IX8 n8).mpr (IX_to IXh v0)
    · have := LVs k hk
      unfold LVk at *
      rw [row 35 (by decide), row 36 (by decide), row 37 (by decide), row 38 (by decide), row 39 (by decide), row 40 (by decide), row 41 (by decide), LV_rows (fun j _ q _ _ => row j q)]
      exact this
  · rw [if_neg (by omega)]
    have hI2 : IS (mkS S a r np (N S 21 a) (N S 3 a) (wd S a)) n np A dd hh := IX_make IXh n8 ha hr (by omega) rfl rfl rfl hw ht hch hlt hu hA (fun i _ => mt2 i)
    have SM : SIM (mkS S a r np (N S 21 a) (N S 3 a) (wd S a)) (mtC D' a (wd S a) r (fun i => un (nI (tabN S a np (N S 21 a) (N S 3 a) i)))) n np nl sz 8 := SIM_make n8 ha hD' r0 hw (fun x hx q => by
        have vx : 0 < vtr S n x := by
          unfold vtr; rw [if_pos hx]
          rcases Nat.eq_zero_or_pos (N S 23 x) with z | z
          · exact absurd (by rw [((B.2.2.2.2.2.2.2.2.2.1 x (by omega)).2.2.2.2.2.2.2.2.2.1).1, z]; rfl) q
          · exact z
        show (S 25 x).toNatClampNeg ≤ 256
        by_cases y : x = a
        · rw [y] at vx ⊢
          rw [(h25 vx).1, nI_clamp (by have := (h25 vx).2; omega)]; exact (h25 vx).2
        · have t := TXh.1 x y vx
          rw [t.2.1, nI_clamp (by have := t.2.2.1; omega)]; exact t.2.2.1) (fun x j hx hj => by
        show ∃ c, c < n ∧ (if j < N S 21 x then S 20 (8 * x + j) else S 19 x) = nI c
        by_cases y : j < N S 21 x
        · rw [if_pos y]; exact B.2.2.2.2.2.2.2.2.2.2.1 x j hx y
        · rw [if_neg y]
          have hj' : j < N S 21 x + (if S 19 x = -1 then 0 else 1) := hj
          rcases (B.2.2.2.2.2.2.2.2.2.1 x (by omega)).2.2.2.2.1 with z | z
          · rw [if_pos z] at hj'; omega
          · exact z) (fun i _ => rfl) M
    have BB : BI (mkS S a r np (N S 21 a) (N S 3 a) (wd S a)) n np nl T := by rw [hr]; exact BI_make a8 hR hw B
    have row : ∀ j, j ≠ 23 → j ≠ 24 → j ≠ 25 → j ≠ 26 → j ≠ 27 → j ≠ 32 → j ≠ 33 → (mkS S a r np (N S 21 a) (N S 3 a) (wd S a)) j = S j := fun j q1 q2 q3 q4 q5 q6 q7 => mkS_row q1 q2 q3 q4 q5 q6 q7
    have e10 := row 10 (by decide) (by decide) (by decide) (by decide) (by decide) (by decide) (by decide)
    have e11 := row 11 (by decide) (by decide) (by decide) (by decide) (by decide) (by decide) (by decide)
    have e12 := row 12 (by decide) (by decide) (by decide) (by decide) (by decide) (by decide) (by decide)
    have e16 := row 16 (by decide) (by decide) (by decide) (by decide) (by decide) (by decide) (by decide)
    have e21 := row 21 (by decide) (by decide) (by decide) (by decide) (by decide) (by decide) (by decide)
    have e22 := row 22 (by decide) (by decide) (by decide) (by decide) (by decide) (by decide) (by decide)
    have e3 := row 3 (by decide) (by decide) (by decide) (by decide) (by decide) (by decide) (by decide)
    have e28 := row 28 (by decide) (by decide) (by decide) (by decide) (by decide) (by decide) (by decide)
    have e29 := row 29 (by decide) (by decide) (by decide) (by decide) (by decide) (by decide) (by decide)
    have e31 := row 31 (by decide) (by decide) (by decide) (by decide) (by decide) (by decide) (by decide)
    have s26 : ∀ i, i < wd S a → (mkS S a r np (N S 21 a) (N S 3 a) (wd S a)) 26 (256 * a + i) = nI (tabN S a np (N S 21 a) (N S 3 a) i) := fun i hi => by
      rw [mkS_26, if_pos (by omega), show 256 * a + i - 256 * a = i by omega]
    have s23 : (mkS S a r np (N S 21 a) (N S 3 a) (wd S a)) 23 a = r := by simp [mkS, mkT, mk1, mkC, rsR, mu]
    have s25 : (mkS S a r np (N S 21 a) (N S 3 a) (wd S a)) 25 a = nI (wd S a) := by simp [mkS, mkT, mk1, mkC, rsR, mu]
    have s24 : (mkS S a r np (N S 21 a) (N S 3 a) (wd S a)) 24 a = S 22 a := by simp [mkS, mkT, mk1, mkC, rsR, mu]
    have W2 : WI (mkS S a r np (N S 21 a) (N S 3 a) (wd S a)) (mtC D' a (wd S a) r (fun i => un (nI (tabN S a np (N S 21 a) (N S 3 a) i)))) n np nl T sz A dd hh 8 8 := by
      refine ⟨by rw [row 2 (by decide) (by decide) (by decide) (by decide) (by decide) (by decide) (by decide)]; exact w1, BB, SM, (IX8 n8).mpr hI2, fun k hk => ?_, CD_r CDh (row 20 (by decide) (by decide) (by decide) (by decide) (by decide) (by decide) (by decide)) e21, Z5_r Z5h e10 (fun _ => rfl)⟩
      have := LVs k hk
      unfold LVk at *
      rw [row 35 (by decide) (by decide) (by decide) (by decide) (by decide) (by decide) (by decide), row 36 (by decide) (by decide) (by decide) (by decide) (by decide) (by decide) (by decide), row 37 (by decide) (by decide) (by decide) (by decide) (by decide) (by decide) (by decide), row 38 (by decide) (by decide) (by decide) (by decide) (by decide) (by decide) (by decide), row 39 (by decide) (by decide) (by decide) (by decide) (by decide) (by decide) (by decide), row 40 (by decide) (by decide) (by decide) (by decide) (by decide) (by decide) (by decide), row 41 (by decide) (by decide) (by decide) (by decide) (by decide) (by decide) (by decide)]
      exact LV_make (ex := a) IXh n8 ha hlt hw this
    have eE : ∀ j, j ≠ 32 → j ≠ 57 → j ≠ 58 → j ≠ 23 → j ≠ 27 → mtC D' a (wd S a) r (fun i => un (nI (tabN S a np (N S 21 a) (N S 3 a) i))) j = C j := fun j z1 z2 z3 z4 z5 => by rw [mtC, mu_row z5, mu_row z4, tbS_row z2 z3, hD' j z1]
    have E57 : mtC D' a (wd S a) r (fun i => un (nI (tabN S a np (N S 21 a) (N S 3 a) i))) 57 a = nI (wd S a) := by rw [mtC, mu_row (by decide), mu_row (by decide)]; simp [tbS]
    have E58 : ∀ i, i < 256 → mtC D' a (wd S a) r (fun i => un (nI (tabN S a np (N S 21 a) (N S 3 a) i))) 58 (256 * a + i) = un (nI (tabN S a np (N S 21 a) (N S 3 a) i)) := fun i hi => by
      rw [mtC, mu_row (by decide), mu_row (by decide)]
      have : ∀ y, tbS D' 57 58 a (nI (wd S a)) (fun i => un (nI (tabN S a np (N S 21 a) (N S 3 a) i))) 58 y = if 256 * a ≤ y ∧ y < 256 * a + 256 then un (nI (tabN S a np (N S 21 a) (N S 3 a) (y - 256 * a))) else D' 58 y := fun y => by simp [tbS]
      rw [this, if_pos (by omega), show 256 * a + i - 256 * a = i by omega]
    have vR2 : vR (mkS S a r np (N S 21 a) (N S 3 a) (wd S a)) a = vR S a := by unfold vR N; rw [e10, e12]
    have vtr2 : vtr (mkS S a r np (N S 21 a) (N S 3 a) (wd S a)) n a = vR S a := by
      unfold vtr; rw [if_pos ha]; show ((mkS S a r np (N S 21 a) (N S 3 a) (wd S a)) 23 a).toNatClampNeg = _; rw [s23, hr, nI_clamp (by omega)]
    rcases hQ with ⟨hroot, hQ⟩ | ⟨hroot, hQ⟩
    · have hrt := rtC.1.mp hroot
      have h16 := noP.mp hrt
      rw [if_neg (by rw [h16]; decide)]
      have nop : ∀ p, ¬ vpa S n a p := fun p q => D.2.2.1.2.2.2.2.2.2.2.2.2.2 a p hrt q
      have nA : ∀ x, ¬ A x a := fun x q => by
        rcases D.2.1.2.1 a hhd with ⟨p', q1⟩ | ⟨-, q1⟩
        · exact nop p' q1
        · exact q1 x q
      have nse : ∀ b, b < 8 → ¬ cI (S 22 a) (nI b) := fun b hb q => nA b (D.2.2.2.1.2.1 a b ⟨ha, hb, q⟩)
      have w0 : 0 < wd S a := unR_pos 8 (fun b hb q => absurd q (nse b hb))
      have t0l : tabN S a np (N S 21 a) (N S 3 a) 0 ≤ 1048576 := blR_le _ _
      have edu : duC (mtC D' a (wd S a) r (fun i => un (nI (tabN S a np (N S 21 a) (N S 3 a) i)))) a n (fun _ => -1) = un (nI (tabN S a np (N S 21 a) (N S 3 a) 0)) := by
        show etV (mtC D' a (wd S a) r _ 57 a) (fun i => mtC D' a (wd S a) r _ 58 (256 * a + i)) (plI (mtC D' a (wd S a) r _ 3) (mtC D' a (wd S a) r _ 22 a) (fun _ => -1) n) = _
        rw [eE 22 (by decide) (by decide) (by decide) (by decide) (by decide), (M.2.1 a ha).2.2.2.2.2.2.2.1, plI_0 n (fun b hb => nse b (by omega)), E57]
        have z := etV_in (w := wd S a) (p := 0) (f := fun i => mtC D' a (wd S a) r (fun i => un (nI (tabN S a np (N S 21 a) (N S 3 a) i))) 58 (256 * a + i)) w0 (by omega)
        have z' : etV (nI (wd S a)) (fun i => mtC D' a (wd S a) r (fun i => un (nI (tabN S a np (N S 21 a) (N S 3 a) i))) 58 (256 * a + i)) 0 = mtC D' a (wd S a) r (fun i => un (nI (tabN S a np (N S 21 a) (N S 3 a) i))) 58 (256 * a + 0) := z
        rw [z', E58 0 (by omega)]
      have n21' : N (mkS S a r np (N S 21 a) (N S 3 a) (wd S a)) 21 a = N S 21 a := by simp only [N, e21]
      have n3' : N (mkS S a r np (N S 21 a) (N S 3 a) (wd S a)) 3 a = N S 3 a := by simp only [N, e3]
      rcases hQ with ⟨q0, rfl, rfl⟩ | ⟨q0, rfl, v, hv, hv1, hv2, rfl⟩
      · have t0 : tabN S a np (N S 21 a) (N S 3 a) 0 = 1048576 := by
          rw [edu] at q0
          exact un_inj t0l (Nat.le_refl _) (q0.trans rfl)
        rw [if_pos t0]
        obtain ⟨q, r', k1, k2, k3, k4, k5⟩ := PIh.1 a ha
        have nq : (S 10 a).toNatClampNeg = q := N_nI k3 (by omega)
        have h11 : S 11 q = nI a := by have := hrt.2; rw [show N S 10 a = q from nq] at this; exact this
        have ec : (mtC D' a (wd S a) r (fun i => un (nI (tabN S a np (N S 21 a) (N S 3 a) i))) 10 a).toNatClampNeg = q := by
          rw [eE 10 (by decide) (by decide) (by decide) (by decide) (by decide), (M.2.1 a ha).2.2.1, nq]
        rw [ec]
        have row2 : ∀ j, j ≠ 29 → (mu (mkS S a r np (N S 21 a) (N S 3 a) (wd S a)) 29 a r) j = (mkS S a r np (N S 21 a) (N S 3 a) (wd S a)) j := fun j z => mu_row z
        refine ⟨nl, by rw [row2 2 (by decide)]; exact W2.1, ?_, ?_, ?_, fun k hk => ?_, CD_r W2.2.2.2.2.2.1 (row2 20 (by decide)) (row2 21 (by decide)), Z5_r W2.2.2.2.2.2.2 (row2 10 (by decide)) (fun _ => rfl)⟩
        · have := BI_none (a := a) hR W2.2.1; rw [← hr] at this; exact this
        · refine SIM_none (by omega) (by rw [e11]; exact h11) a8 (fun q' hq' hs5 hne => ?_) SM
          intro e
          have e' : (S 11 q').toNatClampNeg = a := by rw [← e]; unfold N; rw [e11]
          obtain ⟨x, hx, ex⟩ := Z5h q' hq' hs5
          obtain ⟨q2, r2, j1, j2, j3, j4, j5⟩ := PIh.1 x hx
          have : q2 = q' := nI_inj (by omega) (by omega) (j3.symm.trans ex)
          rw [this] at j4 j5
          have ra : r2 = a := by rw [← e', j4, nI_clamp (by omega)]
          rw [ra] at j5
          exact hne (nI_inj (by omega) (by omega) (j5.symm.trans k3))
        · refine (IX8 n8).mpr (IS_none (by rw [vR2]; exact hr) hI2 ha (by rw [vR2]; omega) (by rw [vR2]; exact vtr2) ?_)
          rw [vR2]
          have : vst (mkS S a r np (N S 21 a) (N S 3 a) (wd S a)) n a = vst S n a := by unfold vst N; rw [e28]
          rw [this]; have := stlt hrt; omega
        · have := W2.2.2.2.2.1 k hk
          unfold LVk at *
          rw [row2 35 (by decide), row2 36 (by decide), row2 37 (by decide), row2 38 (by decide), row2 39 (by decide), row2 40 (by decide), row2 41 (by decide)]
          exact LV_none this
      · have t0 : tabN S a np (N S 21 a) (N S 3 a) 0 ≠ 1048576 := fun e => q0 (by rw [edu, e]; rfl)
        rw [if_neg t0]
        have ti := (hI2.2.2.2.1.1 a (by rw [vtr2]; omega)).2.2.2 0 (by
          have : wd (mkS S a r np (N S 21 a) (N S 3 a) (wd S a)) a = wd S a := by simp only [wd, unN, e3, e22]
          rw [this]; exact w0)
        have tl' : tabN (mkS S a r np (N S 21 a) (N S 3 a) (wd S a)) a np (N S 21 a) (N S 3 a) 0 ≤ 1048576 := blR_le _ _
        have teq : tabN (mkS S a r np (N S 21 a) (N S 3 a) (wd S a)) a np (N S 21 a) (N S 3 a) 0 = tabN S a np (N S 21 a) (N S 3 a) 0 := by
          have z := ti.1
          rw [n21', n3'] at z
          exact (nI_inj (by omega) (by omega) ((s26 0 w0).symm.trans z)).symm
        have fceq : blR (FC (mkS S a r np (N S 21 a) (N S 3 a) (wd S a)) np a (fun _ => -1)) (N S 3 a) = tabN S a np (N S 21 a) (N S 3 a) 0 := by
          rw [← teq]
          refine blR_c _ (fun k hk => ?_)
          show costN _ (upn (nvE (fun _ => -1)) a k) a np (N (mkS S a r np (N S 21 a) (N S 3 a) (wd S a)) 21 a) = _
          rw [n21']
          refine cost_cg a8 (bi_pr BB) (fun x hx => ?_)
          unfold upn
          by_cases y : x = a
          · rw [if_pos y, if_pos y]
          · rw [if_neg y, if_neg y]
            show (0 : Nat) = dgR _ _ 0 x
            unfold dgR
            split
            · rw [Nat.zero_div, Nat.zero_mod]
            · rfl
        have ht2 : vth (mkS S a r np (N S 21 a) (N S 3 a) (wd S a)) n a := ⟨ha, by rw [row 14 (by decide) (by decide) (by decide) (by decide) (by decide) (by decide) (by decide)]; exact ht.2⟩
        have hz2 := B.2.2.1 a ha
        have hz4 := (B.2.1 a a8).2
        have cu : ∀ u, u < N S 3 a → cuC (mtC D' a (wd S a) r (fun i => un (nI (tabN S a np (N S 21 a) (N S 3 a) i)))) a n np (N S 21 a) (fun _ => 0) (fun _ => -1) u = un (nI (FC (mkS S a r np (N S 21 a) (N S 3 a) (wd S a)) np a (fun _ => -1) u)) := fun u hu => by
          have z := cost_CS (nv := upn (fun _ => 0) a u) (g := gUp (fun _ => -1) a u) BB SM ((IX8 n8).mpr hI2) ha ht2 (fun c hc => hI2.2.1.1.2.1 a c (by rw [vtr2]; omega) hc) (fun c hc => (hI2.2.2.2.1.1 c (Nat.lt_of_lt_of_le hc (hI2.2.1.1.2.2.1 c))).2.2.1) (fun b hb => by
            unfold upn
            by_cases y : b = a
            · rw [if_pos y, y]; rw [n3']; exact ⟨by omega, fun _ => hu⟩
            · rw [if_neg y]; exact ⟨show 0 < 4 by omega, fun hbn => by have := BB.2.2.1 b hbn; show 0 < _; omega⟩) (fun x hx q => by
            have y : x = a := q.resolve_left (fun z => by
              have z2 := z.2.2
              rw [e22] at z2
              exact nse x z.2.1 z2)
            unfold gUp upn; rw [if_pos y, if_pos y])
          rw [n21'] at z
          show costC _ (upn (fun _ => 0) a u) (gUp (fun _ => -1) a u) a n np (N S 21 a) = un (nI (costN _ (upn (nvE (fun _ => -1)) a u) a np (N (mkS S a r np (N S 21 a) (N S 3 a) (wd S a)) 21 a)))
          rw [n21']
          exact z.1
        have Fl : ∀ k, FC (mkS S a r np (N S 21 a) (N S 3 a) (wd S a)) np a (fun _ => -1) k ≤ 1048576 := fun k => by show (if _ then _ else _) ≤ _; split <;> omega
        have hpick : nI v = bvR (FC (mkS S a r np (N S 21 a) (N S 3 a) (wd S a)) np a (fun _ => -1)) (N S 3 a) := pick_v Fl (by rw [fceq]; omega) hv (fun u hu => by
          rw [fceq, ← edu, ← cu u (by omega)]; exact hv1 u hu) (hv2.imp_right (fun z => by rw [fceq, ← edu, ← cu v hv]; exact z))
        refine ⟨snl nl (N S 21 a), ?_⟩
        have res := cho_W (a := a) (v := v) (r := r) (e := fun _ => -1) (g := fun _ => -1) (S1 := mkS S a r np (N S 21 a) (N S 3 a) (wd S a)) W2 n8 ha (by rw [vR2]; exact hr) (by rw [vR2]; exact hR) (by rw [vtr2]; omega) (fun _ => by
            rw [vR2]; refine ⟨vtr2, ?_⟩
            have : vnr (mkS S a r np (N S 21 a) (N S 3 a) (wd S a)) n a = vnr S n a := by unfold vnr N; rw [e29]
            rw [this]; exact nrlt hrt) (fun q z1 z2 z3 => by
            have y1 : vrt S n q := by unfold vrt N at *; rw [e10, e11] at z1; exact z1
            have y2 : vsp S q a := by unfold vsp at *; rw [e10] at z2; exact z2
            exact absurd (D.2.2.1.2.2.2.2.2.2.1 q a y1 hrt y2) z3) (fun p z => by
            exfalso
            have y3 : vpa S n a p := by unfold vpa at *; rw [e16] at z; exact z
            exact nop p y3) (by
            rw [vR2]
            have : vst (mkS S a r np (N S 21 a) (N S 3 a) (wd S a)) n a = vst S n a := by unfold vst N; rw [e28]
            rw [this]; exact stlt hrt) (fun _ _ => rfl) (fun i => by
            by_cases y : i = 8 * a + a
            · rw [if_neg (fun z => z.2.2 y), if_pos y]
            · by_cases y2 : 8 * a ≤ i ∧ i < 8 * a + 8
              · rw [if_pos ⟨y2.1, y2.2, y⟩, e31]
                have := (KIh a ha).2.2.2.1 nop (i - 8 * a) (by omega) (by omega)
                rw [show 8 * a + (i - 8 * a) = i by omega] at this
                exact this
              · rw [if_neg (fun z => y2 ⟨z.1, z.2.1⟩), if_neg y]) (fun x hx => Or.inl rfl) (fun x hx q => absurd q (nA x)) (fun _ x hx _ => rfl) (fun x hx _ => rfl) (by rw [n3', fceq]; omega) (by rw [n3']; exact hpick) (by omega)
        rw [n21'] at res
        have ech : chC (mkS S a r np (N S 21 a) (N S 3 a) (wd S a)) a r np = chS (mkS S a r np (N S 21 a) (N S 3 a) (wd S a)) a r np (N S 21 a) (N S 3 a) := by
          show chS _ a r np (N (mkS S a r np (N S 21 a) (N S 3 a) (wd S a)) 21 a) (N (mkS S a r np (N S 21 a) (N S 3 a) (wd S a)) 3 a) = _
          rw [n21', n3']
        rw [ech] at res
        exact res
    · have h16 : S 16 a ≠ -1 := fun e => hroot (rtC.1.mpr (noP.mpr e))
      obtain ⟨p, hp, ep⟩ := ((B.2.2.2.2.2.2.2.2.2.1 a a8).2.2.2.1).resolve_left h16
      have c16 := (M.2.1 a ha).2.2.2.2.1
      rw [if_pos (by rw [ep]; exact nI_pos (by omega))]
      obtain ⟨-, rfl, rfl⟩ : C 16 a ≠ -1 ∧ sz' = lu sz 8 0 (nlS nl) ∧ C' = _ := hQ.resolve_left (fun z => h16 (c16 ▸ z.1))
      obtain ⟨P, Pc⟩ := PS_pt (S := mkS S a r np (N S 21 a) (N S 3 a) (wd S a)) (k := a) BB.1.2.2.2.2.1 BB.1.2.2.2.2.2.1 (by show ((mkS S a r np (N S 21 a) (N S 3 a) (wd S a)) 25 a).toNatClampNeg ≤ 256; rw [s25, nI_clamp (by omega)]; exact hw)
      have n25 : N (mkS S a r np (N S 21 a) (N S 3 a) (wd S a)) 25 a = wd S a := N_nI s25 (by omega)
      rw [n25] at Pc
      rw [s25, s23, s24, e16] at P
      have wd2 : wd (mkS S a r np (N S 21 a) (N S 3 a) (wd S a)) a = wd S a := by simp only [wd, unN, e3, e22]
      refine ⟨nlS nl, ?_⟩
      rw [c16]
      refine post_W W2 P (fun q => ⟨a, p, ha, hp, rfl, ep, Or.inr (Or.inr (Or.inl ⟨rfl, ?_, ?_, by rw [e22], by rw [wd2], by rw [wd2]; exact hw, fun i hi => ?_, vR S a, R1, by omega, hr, Or.inr ⟨vtr2.symm, by rw [vR2]; exact vtr2, fun i hi => ?_⟩⟩))⟩) (fun _ => rfl) (fun q _ => ⟨by rw [nI_clamp (by omega)]; exact hw, fun i hi => ?_⟩) (fun _ e => absurd e (by decide))
      · exact ⟨ha, by rw [row 14 (by decide) (by decide) (by decide) (by decide) (by decide) (by decide) (by decide)]; exact ht.2⟩
      · exact ⟨ha, by omega, by rw [e16]; exact ep⟩
      · rw [wd2] at hi
        have z : ptS (mkS S a r np (N S 21 a) (N S 3 a) (wd S a)) a 41 (256 * nl + i) = nI (tabN S a np (N S 21 a) (N S 3 a) i) := (Pc q i hi).trans (s26 i hi)
        have tl : tabN S a np (N S 21 a) (N S 3 a) i ≤ 1048576 := blR_le _ _
        show ptS _ a 41 (256 * nl + i) = nI (ptS _ a 41 (256 * nl + i)).toNatClampNeg ∧ (ptS _ a 41 (256 * nl + i)).toNatClampNeg ≤ _
        rw [z, nI_clamp (by omega)]; exact ⟨rfl, tl⟩
      · rw [wd2] at hi; exact Pc q i hi
      · rw [nI_clamp (by omega)] at hi
        show mtC _ _ _ _ _ 58 _ = _
        rw [E58 i (by omega), Pc q i hi, s26 i hi]
end
