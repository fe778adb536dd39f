/-! CLASS AND REFERENCE: makeTable, hold, choose side by side. Written by wip/whole/gen/p77.py -/
section
variable {Γ : jm_G} {d x : Nat} {L sz : Nat → Nat → Nat} {S C : mS} {h : jm_H} {ρ : Nat → Nat} {n np nl T : Nat} {A : Rl} {dd : Nat → Nat} {hh : Nat → Prop}
/-- a is to make its table -/
def wkP (V : mS) (n : Nat) (A : Rl) (a : Nat) (r : Int32) : Prop := a < n ∧ r = nI (vR V a) ∧ vth V n a ∧ (∀ c, vch V n a c → 0 < vtq V n c) ∧ (∀ c, 0 < vtq V n c → wd V c ≤ 256) ∧ vtr V n a < vR V a ∧
  (2 ≤ vR V a → ∀ x y, vpa V n x y → vsp V x a → vtq V n x = vtr V n x) ∧ (∀ x, A x a → vtr V n x < vR V a) ∧ (0 < vtr V n a → V 25 a = nI (wd V a) ∧ wd V a ≤ 256)
theorem unR_le {z : Nat → Int32} {y : Int32} : ∀ k, (∀ b, b < k → (z b).toNatClampNeg ≤ 4) → unR z y k ≤ 4 ^ k
  | 0, _ => Nat.le_refl _
  | k + 1, h => by
    have ih := unR_le (y := y) k (fun b hb => h b (by omega))
    have hk := h k (by omega)
    rw [unR, Nat.pow_succ]
    split
    · exact Nat.mul_le_mul ih hk
    · omega
theorem wd_31 (B : BI S n np nl T) (a : Nat) : wd S a < 2 ^ 31 := by
  have := unR_le (z := S 3) (y := S 22 a) 8 (fun b hb => (B.2.1 b hb).2)
  exact Nat.lt_of_le_of_lt this (by decide)
theorem kw_B_makeTable {a : Nat} {r : Int32} (hd : 4 ≤ d) (W : WI S C n np nl T sz A dd hh 8 a) (hP : wkP S n A a r) :
    cM Γ m_B_makeTable d x [.ref x, .ref (L 1 a), .int r] L sz C 10 307 (fun oc L' sz' C' => oc = .inl none ∧ kL8 L L' ∧ ∃ nl', WI (wkC S a r np) C' n np nl' T sz' A dd hh 8 8) := by
  obtain ⟨ha, hr, ht, hch, hw256, hlt, hu, hA, h25⟩ := hP
  obtain ⟨w1, B, M, IXh, LVs, CDh, Z5h⟩ := id W
  have n8 := B.1.2.1
  have D := IXh.1
  have PIh := IXh.2.2.2.2.2
  have rt := rt_C M PIh ha n8
  have z3 := z3_of B M
  have h7 := (B.2.2.2.2.2.2.2.2.2.1 a (by omega)).2.2.2.2.2.1.2
  have e3 : C 3 a = nI (N S 3 a) := by rw [(M.2.1 a ha).1]; exact (B.2.1 a (by omega)).1
  have z2 := B.2.2.1 a ha
  have z4 := (B.2.1 a (by omega)).2
  intro h ρ hc
  have k := k_B_makeTable (nl := nl) (r := r) hd (cw_of B M D ha ht) z3 e3 (by omega) z4 (wd_C B M D ha) (wd_31 B a) (fun _ => (mt_of (w := wd S a) B M IXh ha ht hch hw256).1) (up_of B M D ha ht) (fun q => no_up B M D ha (rt.1.mp q)) h7 M.1.2.2.1 M.1.2.2.2.2.2.2.2 B.1.2.2.2.2.2.1 rt.2 h ρ hc
  refine jm_M.cons k (fun oc h' hq => ?_)
  obtain ⟨L', ρ', sz', C', ⟨e0, hQ⟩, hc', hf'⟩ := hq
  have hk8 : kL8 L L' := by
    rcases hQ with ⟨-, q, -⟩ | ⟨-, q, -⟩
    · rw [q]; exact fun _ _ _ => rfl
    · exact q
  have hQP : QMP C sz a r n np (N S 21 a) nl (N S 3 a) (wd S a) (fun i => un (nI (tabN S a np (N S 21 a) (N S 3 a) i))) sz' C' := by
    rcases hQ with ⟨q1, -, q2, q3⟩ | ⟨q1, -, q2⟩
    · exact Or.inl ⟨q1, q2, q3⟩
    · exact Or.inr ⟨q1, q2⟩
  exact ⟨L', ρ', sz', C', ⟨e0, hk8, work_W W ha hr ht hch hw256 hlt hu hA h25 hQP⟩, hc', hf'⟩
theorem WI_ex {hx : Nat} (a : Nat) (W : WI S C n np nl T sz A dd hh hx 8) : WI S C n np nl T sz A dd hh hx a := by
  obtain ⟨w1, B, M, IXh, R⟩ := W
  exact ⟨w1, B, M, IX_of ((IX8 B.1.2.1).mp IXh), R⟩
theorem kw_B_hold {a : Nat} (hd : 3 ≤ d) (ha : a < n) (W : WI S C n np nl T sz A dd (fun y => y = a) a 8) :
    cM Γ m_B_hold d x [.ref x, .ref (L 1 a)] L sz C 2 8 (fun oc L' sz' C' => kL L L' ∧ ((oc = .inl (some (.int 0)) ∧ ∃ nl', WI (hdC S a n np) C' n np nl' T sz' A dd noH 8 8) ∨ (oc = .inl (some (.int 1)) ∧ ∃ V nl', hdC S a n np = wkC V a 1 np ∧ WI V C' n np nl' T sz' A dd noH 8 8 ∧ wkP V n A a 1))) := by
  obtain ⟨h19, h52, h4, h7, h53, enx, hc7, hhd, nth⟩ := hold_pre W ha
  obtain ⟨w1, B, M, IXh, LVs, CDh, Z5h⟩ := id W
  have n8 := B.1.2.1
  intro h ρ hc
  have k := k_B_hold (n := n) (a := a) (cc := N S 21 a) (nl := nl) hd M.1.1 M.1.2.2.2.2.2.1 n8 (by rw [M.1.2.2.2.2.2.1]; exact ha) h52 h4 h7 hc7 h53 M.1.2.2.1 M.1.2.2.2.2.2.2.2 B.1.2.2.2.2.2.1 h ρ hc
  refine jm_M.cons k (fun oc h' hq => ?_)
  obtain ⟨L', ρ', sz', C', hQ, hc', hf'⟩ := hq
  rcases hQ with ⟨q1, q2, q3, b, q4, q5, q6, q7⟩ | ⟨q1, q2, q3, q4, q5⟩
  · refine ⟨L', ρ', sz', C', ⟨q3, Or.inl ⟨q2, nlS nl, ?_⟩⟩, hc', hf'⟩
    rw [q6, q7]; exact hold_wait_W W ha q4 (enx.symm.trans q5)
  · obtain ⟨nl', W2, -, t1, t2, t3, t4, t5, t6, t7⟩ := hold_thr_W W ha (enx.symm.trans q1)
    rw [← q4, ← q5] at W2
    rw [t6] at q2
    refine ⟨L', ρ', sz', C', ⟨q3, ?_⟩, hc', hf'⟩
    cases hha : haN (hdV S a n (N S 21 a)) a (N S 21 a)
    · refine Or.inl ⟨by rw [q2, hha]; rfl, nl', ?_⟩
      have : hdC S a n np = hdV S a n (N S 21 a) := by
        rw [t5]; show wkS _ a 1 np _ _ _ = _
        unfold wkS
        rw [t7, hha, if_neg (by decide)]
      rw [this]; exact W2
    · refine Or.inr ⟨by rw [q2, hha]; rfl, _, nl', t5, W2, ?_⟩
      have B2 := W2.2.1
      have hI2 := (IX8 n8).mp W2.2.2.2.1
      have E2 := hI2.2.1
      have all : ∀ k, k ≤ N S 21 a → haR ((hdV S a n (N S 21 a)) 14 a) ((hdV S a n (N S 21 a)) 20) ((hdV S a n (N S 21 a)) 23) a k = true → ∀ j, j < k → ¬ (hdV S a n (N S 21 a)) 23 (8 + ((hdV S a n (N S 21 a)) 20 (8 * a + j)).toNatClampNeg) ≤ 0 := by
        intro k
        induction k with
        | zero => intro _ _ j hj; exact absurd hj (Nat.not_lt_zero _)
        | succ k ih =>
          intro hk hz j hj
          rw [haR, Bool.and_eq_true] at hz
          rcases Nat.lt_or_ge j k with z | z
          · exact ih (by omega) hz.1 j z
          · rw [show j = k by omega]; exact of_decide_eq_true hz.2
      have al := all _ (Nat.le_refl _) hha
      refine ⟨ha, by rw [t3]; rfl, t1, fun c hcc => ?_, fun c hcc => (hI2.2.2.2.1.1 c (Nat.lt_of_lt_of_le hcc (E2.1.2.2.1 c))).2.2.1, by rw [t2, t3]; decide, fun h2 => by rw [t3] at h2; omega, fun y q => by rw [t4 y q, t3]; decide, fun q => by rw [t2] at q; exact absurd q (Nat.lt_irrefl _)⟩
      obtain ⟨z1, z2, j, z3, z4⟩ := hcc
      rw [t7] at z3
      have z := al j z3
      rw [z4, nI_clamp (by omega)] at z
      have hcn : c < n := hI2.1.1.1 _ (hI2.1.1.2.1 _ (hI2.1.1.2.2.2.2.1 a c ⟨z1, z2, j, by rw [t7]; exact z3, z4⟩).2.1)
      unfold vtq; rw [if_pos hcn]
      rcases Nat.eq_zero_or_pos (N (hdV S a n (N S 21 a)) 23 (8 + c)) with w | w
      · exfalso
        refine z ?_
        rw [((B2.2.2.2.2.2.2.2.2.2.1 c (by omega)).2.2.2.2.2.2.2.2.2.2).1, w]; decide
      · exact w
theorem kw_B_choose {a p vq : Nat} {m : Int32} {e g : Nat → Int32} (hd : 3 ≤ d) (W : WI S C n np nl T sz A dd noH 8 8) (hpa : vpa S n a p) (hst : vst S n p = vR S a) (hlt : vst S n a < vR S a) (hm : m = nI (vR S a)) (he : rowK S n e) (hek : ∀ y, y < 8 → e y = S 31 (8 * p + y)) (he41 : ∀ y, y < 8 → S 41 (5120 + y) = e y) (hge : ∀ y, y < 8 → g y = e y) (hc : co Γ h x L ρ sz C) (hV : V8 h vq g) :
    jm_M Γ m_B_choose d [.ref x, .ref (L 1 a), .int m, .ref vq] h 8 43 (fun oc h' => ∃ L' ρ' sz' C', (oc = .inl none ∧ kL8 L L' ∧ ∃ nl', WI (chC (ch0 S a) a m np) C' n np nl' T sz' A dd noH 8 8) ∧ co Γ h' x L' ρ' sz' C' ∧ xt ρ h ρ' h') := by
  obtain ⟨w1, B, M, IXh, LVs, CDh, Z5h⟩ := id W
  have n8 := B.1.2.1
  have hI := (IX8 n8).mp IXh
  have D := hI.1
  have ha : a < n := hpa.1
  obtain ⟨tr0, tha, heA, allst, ltw, beq, hfin, nvo⟩ := told_fin B hI hpa hst he hek
  have e3 : C 3 a = nI (N S 3 a) := by rw [(M.2.1 a ha).1]; exact (B.2.1 a (by omega)).1
  have z2 := B.2.2.1 a ha
  have z4 := (B.2.1 a (by omega)).2
  have h7 := (B.2.2.2.2.2.2.2.2.2.1 a (by omega)).2.2.2.2.2.1.2
  have mtu := up_of B M D ha tha
  have k := k_B_choose (r := m) (n := n) (np := np) (cc := N S 21 a) (nl := nl) (z := N S 3 a) (nv := nvE e) (g := g) hd hc (cw_of B M D ha tha) e3 (by omega) z4 (fun u hu => by
    have one : ∀ y, y < 8 → y = a ∨ (y < n ∧ cI (C 22 a) (nI y)) → gUp g a u y = nI (upn (nvE e) a u y) ∧ upn (nvE e) a u y < 4 := fun y hy q => by
      unfold gUp upn
      by_cases z : y = a
      · rw [if_pos z, if_pos z]; exact ⟨rfl, by omega⟩
      · rw [if_neg z, if_neg z]
        have sy := (q.resolve_left z).2
        rw [(M.2.1 a ha).2.2.2.2.2.2.2.1] at sy
        have ne := heA y hy (D.2.2.2.1.2.1 a y ⟨ha, hy, sy⟩)
        refine ⟨?_, (nvo y hy).1⟩
        rw [hge y hy]
        rcases he y hy with w | ⟨-, v, w2, w3⟩
        · exact absurd w ne
        · show e y = nI (e y).toNatClampNeg
          have := (B.2.1 y hy).2
          rw [w3, nI_clamp (by omega)]
    refine ⟨one a (by omega) (Or.inl rfl), fun p' hp' hup => ?_⟩
    have c := cw_of B M D ha tha
    have cp := c.2.2.2.2.2.2.2.2.2.1 p' hp'
    have mu' := mtu p' hp' hup
    exact ⟨(one _ cp.2.1 mu'.1).1, (one _ cp.2.1 mu'.1).2, (one _ cp.2.2.2 mu'.2).1, (one _ cp.2.2.2 mu'.2).2⟩) h7 M.1.2.2.1 M.1.2.2.2.2.2.2.2 B.1.2.2.2.2.2.1 (rt_C M hI.2.2.2.2.2 ha n8).2 hV
  refine jm_M.cons k (fun oc h' hq => ?_)
  obtain ⟨L', ρ', sz', C', ⟨e0, hk8, hQ⟩, hc', hf'⟩ := hq
  exact ⟨L', ρ', sz', C', ⟨e0, hk8, choice_W W hpa hst hlt hm he hek he41 hge hQ⟩, hc', hf'⟩
end
