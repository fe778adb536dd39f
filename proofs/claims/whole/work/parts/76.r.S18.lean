/-! SIMULATION S18. Laid by wip/whole/gen/p71.py -/
section
variable {S C : mS} {n np nl T : Nat} {sz : Nat → Nat → Nat} {A : Rl} {dd : Nat → Nat} {hh : Nat → Prop} {hx ex : Nat}
theorem cost_sep {a : Nat} {nv nw : Nat → Nat} (B : BI S n np nl T) (D : vDI S n A hh) (ha : a < n) (ht : vth S n a) (h24 : ∀ c, vch S n a c → S 24 (8 + c) = S 22 c) (h : ∀ x, x < 8 → vse S n a x ∨ x = a → nv x = nw x) : costN S nv a np (N S 21 a) = costN S nw a np (N S 21 a) := by
  have n8 := B.1.2.1
  have e1 : s1N S nv a np = s1N S nw a np := s1_cong (h a (by omega) (Or.inr rfl)) np (fun p hp q => by
    obtain ⟨f, g, h1, h2, h3, h4⟩ := bi_fg B p hp
    have an : ∀ x, x < 8 → cI (S 17 a) (nI x) → nv x = nw x := fun x hx z => h x hx (Or.inl (D.2.2.2.1.2.2.1 a x ht ⟨ha, hx, z⟩))
    rw [h3, h4] at q ⊢
    rw [nI_clamp (by omega), nI_clamp (by omega)]
    rcases q with ⟨q1, q2⟩ | ⟨q1, q2⟩
    · have : f = a := nI_inj (by omega) (by omega) q1
      exact ⟨h f h1 (Or.inr this), an g h2 q2⟩
    · have : g = a := nI_inj (by omega) (by omega) q1
      exact ⟨an f h1 q2, h g h2 (Or.inr this)⟩)
  have e : s2N S nv a np (N S 21 a) = s2N S nw a np (N S 21 a) := by
    show s2R (s1N S nv a np) _ _ _ _ _ _ _ = s2R (s1N S nw a np) _ _ _ _ _ _ _
    rw [e1]
    refine s2_cong _ (fun j hj b hb q => ?_)
    obtain ⟨c, hc, ec⟩ := B.2.2.2.2.2.2.2.2.2.2.1 a j ha hj
    have hch : vch S n a c := ⟨ha, by omega, j, hj, ec⟩
    rw [ec, nI_clamp (by omega), h24 c hch] at q
    exact h b hb (D.2.2.2.1.2.2.2 a c b ht hch ⟨hc, hb, q⟩).symm
  show (if s2N S nv a np (N S 21 a) ≤ 1048576 then s2N S nv a np (N S 21 a) else 1048576) = _
  rw [e]
theorem s2_ge {s : Nat} {ch ms ce z : Nat → Int32} {nv : Nat → Nat} {a : Nat} : ∀ k, s ≤ s2R s ch ms ce z nv a k ∧ ∀ j, j < k → (ce (256 * (8 + (ch (8 * a + j)).toNatClampNeg) + plR z (ms (8 + (ch (8 * a + j)).toNatClampNeg)) nv 8)).toNatClampNeg ≤ s2R s ch ms ce z nv a k
  | 0 => ⟨Nat.le_refl _, fun j hj => absurd hj (Nat.not_lt_zero _)⟩
  | k + 1 => by
    obtain ⟨i1, i2⟩ := s2_ge (s := s) (ch := ch) (ms := ms) (ce := ce) (z := z) (nv := nv) (a := a) k
    rw [s2R]
    refine ⟨by omega, fun j hj => ?_⟩
    rcases Nat.lt_or_ge j k with q | q
    · have := i2 j q; omega
    · rw [show j = k by omega]; omega
/-- what was told is answered -/
theorem told_fin {a p : Nat} {e : Nat → Int32} (B : BI S n np nl T) (hI : IS S n np A dd noH) (hpa : vpa S n a p) (hst : vst S n p = vR S a) (he : rowK S n e) (hek : ∀ x, x < 8 → e x = S 31 (8 * p + x)) :
    0 < vtr S n a ∧ vth S n a ∧ (∀ x, x < 8 → A x a → e x ≠ -1) ∧ (∀ q, vrt S n q → vsp S q a → vst S n q = vR S q) ∧ plR (S 3) (S 22 a) (nvE e) 8 < wd S a ∧ blR (FC S np a e) (N S 3 a) = tabN S a np (N S 21 a) (N S 3 a) (plR (S 3) (S 22 a) (nvE e) 8) ∧ blR (FC S np a e) (N S 3 a) < 1048576 ∧ nvok S n (nvE e) := by
  have n8 := B.1.2.1
  obtain ⟨D, E, NIh, TIh, KIh, PIh⟩ := id hI
  have p8 := D.1.2.2.2.2.2.2.2 a p hpa
  have ha : a < n := hpa.1
  have hp : p < n := D.1.1 p p8.2.1
  have sap := p8.2.2.2.1
  have hRap : vR S a = vR S p := E.2.2.2.2.2.2.2.1 _ _ sap
  have R1 := (E.1.2.2.2.2.1 a ha).1
  have symm := D.2.2.1.2.2.2.2.2.2.2.2.1
  have trans := D.2.2.1.2.2.2.2.2.2.2.2.2.1
  have allst : ∀ q, vrt S n q → vsp S q a → vst S n q = vR S q := fun q q1 q2 => E.2.2.2.2.1 p q hp (by rw [hst, hRap]) q1 (trans _ _ _ q2 sap)
  obtain ⟨r, r1, r2, r3⟩ := D.2.2.1.2.2.2.2.2.1 a p8.1
  have rst := allst r r1 r2
  have rtr := E.2.2.2.2.2.1 r r1 rst
  have hRr : vR S r = vR S a := E.2.2.2.2.2.2.2.1 _ _ r2
  have hra : A r a := by
    rcases r3 with z | z
    · exact z
    · rw [z] at r1; exact absurd hpa (D.2.2.1.2.2.2.2.2.2.2.2.2.2 a p r1)
  have tq0 : 0 < vtq S n a := E.2.2.1 r a hra (by omega)
  have tqe : vtq S n a = vtr S n a := E.2.1 r a p r1 rtr hpa (symm _ _ r2)
  have tr0 : 0 < vtr S n a := by omega
  have tha := E.1.1 a tr0
  have kp := KIh p hp
  have heA : ∀ x, x < 8 → A x a → e x ≠ -1 := fun x hx q => by
    rw [hek x hx]
    exact (kp.2.2.1 (by omega)).2 x hx ((D.2.1.1 a p x hpa).mp q)
  have nvo : nvok S n (nvE e) := fun b hb => by
    have q := B.2.1 b hb
    show (e b).toNatClampNeg < 4 ∧ (b < n → (e b).toNatClampNeg < N S 3 b)
    rcases he b hb with z | ⟨z1, v, z2, z3⟩
    · rw [z]; exact ⟨by decide, fun y => by have := B.2.2.1 b y; show 0 < _; omega⟩
    · rw [z3, nI_clamp (by have := q.2; omega)]; exact ⟨by have := q.2; omega, fun _ => z2⟩
  have ltw : plR (S 3) (S 22 a) (nvE e) 8 < wd S a := plR_lt 8 (fun x hx q => (nvo x hx).2 (se_lt D ha hx q))
  have ti := TIh.1 a tr0
  have t2 := TIh.2 a tq0
  have h24 : ∀ c, vch S n a c → S 24 (8 + c) = S 22 c := fun c hc => (TIh.2 c (E.1.2.1 a c tr0 hc)).1
  have beq : blR (FC S np a e) (N S 3 a) = tabN S a np (N S 21 a) (N S 3 a) (plR (S 3) (S 22 a) (nvE e) 8) := by
    refine blR_c _ (fun k hk => ?_)
    refine cost_sep B D ha tha h24 (fun x hx q => ?_)
    unfold upn
    by_cases y : x = a
    · rw [if_pos y, if_pos y]
    · rw [if_neg y, if_neg y]
      have sx := q.resolve_right y
      unfold dgR
      rw [if_pos sx.2.2]
      exact (dg_pl (m := 8) (fun b hb z => (nvo b hb).2 (se_lt D ha hb z)) 8 (Nat.le_refl _) x hx sx.2.2).symm
  refine ⟨tr0, tha, heA, allst, ltw, beq, ?_, nvo⟩
  rw [beq]
  have cf := kp.2.2.2.2 (by rw [hst, hRap])
  have cell : N S 26 (256 * a + plR (S 3) (S 22 a) (nvE e) 8) < 1048576 := by
    have eqc := t2.2.2.2 tqe (plR (S 3) (S 22 a) (nvE e) 8) ltw
    have e1 : N S 26 (256 * a + plR (S 3) (S 22 a) (nvE e) 8) = N S 26 (256 * (8 + a) + plR (S 3) (S 22 a) (nvE e) 8) := by simp only [N, eqc]
    rw [e1]
    rcases (D.1.2.2.2.2.2.2.2 a p hpa).2.2.1 with hch | hwt
    · obtain ⟨z1, z2, j, z3, z4⟩ := hch
      have g := (s2_ge (s := s1N S (kv S p) p np) (ch := S 20) (ms := S 24) (ce := S 26) (z := S 3) (nv := kv S p) (a := p) (N S 21 p)).2 j z3
      rw [z4, nI_clamp (by omega), t2.1] at g
      have pe : plR (S 3) (S 22 a) (kv S p) 8 = plR (S 3) (S 22 a) (nvE e) 8 := pl_cong 8 (fun b hb _ => by show (S 31 (8 * p + b)).toNatClampNeg = (e b).toNatClampNeg; rw [hek b hb])
      rw [pe] at g
      have cf' : (if s2N S (kv S p) p np (N S 21 p) ≤ 1048576 then s2N S (kv S p) p np (N S 21 p) else 1048576) < 1048576 := cf
      have g' : N S 26 (256 * (8 + a) + plR (S 3) (S 22 a) (nvE e) 8) ≤ s2N S (kv S p) p np (N S 21 p) := g
      split at cf' <;> omega
    · have w := (D.1.2.2.2.2.2.1 p a hwt).2.1
      exact absurd (E.1.1 p ((E.2.2.2.1 p).2 (by omega))) w
  have tc := (ti.2.2.2 _ ltw).1
  have tl : tabN S a np (N S 21 a) (N S 3 a) (plR (S 3) (S 22 a) (nvE e) 8) ≤ 1048576 := blR_le _ _
  have : N S 26 (256 * a + plR (S 3) (S 22 a) (nvE e) 8) = tabN S a np (N S 21 a) (N S 3 a) (plR (S 3) (S 22 a) (nvE e) 8) := N_nI tc (by omega)
  omega
/-- a choice comes for the first time in its run -/
theorem choice_W {a p : Nat} {m : Int32} {e g : Nat → Int32} {sz' : Nat → Nat → Nat} {C' : mS} (W : WI S C n np nl T sz A dd noH 8 8) (hpa : vpa S n a p) (hst : vst S n p = vR S a) (hlt : vst S n a < vR S a) (hm : m = nI (vR S a)) (he : rowK S n e) (hek : ∀ x, x < 8 → e x = S 31 (8 * p + x)) (he41 : ∀ x, x < 8 → S 41 (5120 + x) = e x) (hge : ∀ x, x < 8 → g x = e x)
    (hQ : chQ C sz a m n np (N S 21 a) nl (N S 3 a) (nvE e) g sz' C') : ∃ nl', WI (chC (ch0 S a) a m np) C' n np nl' T sz' A dd noH 8 8 := by
  obtain ⟨w1, B, M, IXh, LVs, CDh, Z5h⟩ := id W
  have n8 := B.1.2.1
  have hI := (IX8 n8).mp IXh
  obtain ⟨D, E, NIh, TIh, KIh, PIh⟩ := id hI
  have ha : a < n := hpa.1
  have a8 : a < 8 := by omega
  obtain ⟨tr0, tha, heA, allst, ltw, beq, hfin, nvo⟩ := told_fin B hI hpa hst he hek
  have ti := TIh.1 a tr0
  have hw25 := ti.2.2.1
  have nrt : ¬ vrt S n a := fun q => D.2.2.1.2.2.2.2.2.2.2.2.2.2 a p q hpa
  have n23 : S 23 a ≠ 0 := fun z => by
    have : vtr S n a = 0 := by unfold vtr; rw [if_pos ha]; show (S 23 a).toNatClampNeg = 0; rw [z]; rfl
    omega
  have gx : ∀ x, x < n → vse S n a x → g x = nI (nvE e x) := fun x hx q => by
    have hx8 : x < 8 := by omega
    rw [hge x hx8]
    rcases he x hx8 with z | ⟨-, v, z2, z3⟩
    · exact absurd z (heA x hx8 (D.2.2.2.1.2.1 a x q))
    · show e x = nI (e x).toNatClampNeg
      have := (B.2.1 x hx8).2
      rw [z3, nI_clamp (by omega)]
  have mt := M.2.2.2.2.1 a ha
  have edu : duC C a n g = un (nI (blR (FC S np a e) (N S 3 a))) := by
    show etV (C 57 a) (fun i => C 58 (256 * a + i)) (plI (C 3) (C 22 a) g n) = _
    have ep : plI (C 3) (C 22 a) g n = nI (plR (S 3) (S 22 a) (nvE e) 8) := by
      have c22 := (M.2.1 a ha).2.2.2.2.2.2.2.1
      rw [plI_eq (n := n) (nv := nvE e) (fun x hx => by rw [(M.2.1 x hx).1]; exact (B.2.1 x (by omega)).1) (fun x hx q => gx x hx ⟨ha, by omega, by rw [← c22]; exact q⟩) n (Nat.le_refl _), c22, plR_out (fun b hb q => se_lt D ha hb q) 8 n8 (Nat.le_refl _), plR_z (z' := S 3) n (fun x hx => (M.2.1 x hx).1)]
    rw [ep, mt.1, if_neg n23, ti.2.1, etV_in ltw (by omega)]
    show C 58 (256 * a + plR (S 3) (S 22 a) (nvE e) 8) = _
    rw [mt.2 n23 _ (by show _ < (S 25 a).toNatClampNeg; rw [ti.2.1, nI_clamp (by omega)]; exact ltw), (ti.2.2.2 _ ltw).1, beq]
  have cu : ∀ u, u < N S 3 a → cuC C a n np (N S 21 a) (nvE e) g u = un (nI (FC S np a e u)) := fun u hu => by
    have z4 := (B.2.1 a a8).2
    exact (cost_CS (nv := upn (nvE e) a u) (g := gUp g a u) B M IXh ha tha (fun c hc => E.1.2.1 a c tr0 hc) (fun c hc => (TIh.1 c (Nat.lt_of_lt_of_le hc (E.1.2.2.1 c))).2.2.1) (nvok_up nvo hu z4) (fun x hx q => by
      unfold gUp upn
      by_cases y : x = a
      · rw [if_pos y, if_pos y]
      · rw [if_neg y, if_neg y]; exact gx x hx (q.resolve_right y))).1
  have Fl : ∀ k, FC S np a e k ≤ 1048576 := fun k => by show (if _ then _ else _) ≤ _; split <;> omega
  rcases hQ with ⟨q0, -, -⟩ | ⟨q0, rfl, v, hv, hv1, hv2, rfl⟩
  · exfalso
    rw [edu] at q0
    have := un_inj (by omega) (Nat.le_refl _) (q0.trans (show (-2 : Int32) = un (nI 1048576) from rfl))
    omega
  · have hpick : nI v = bvR (FC S np a e) (N S 3 a) := pick_v Fl hfin hv (fun u hu => by
      rw [← edu, ← cu u (by omega)]; exact hv1 u hu) (hv2.imp_right (fun z => by rw [← edu, ← cu v hv]; exact z))
    have z4 := (B.2.1 a a8).2
    refine ⟨snl nl (N S 21 a), ?_⟩
    exact cho_W (a := a) (v := v) (r := m) (e := e) (g := g) (S1 := ch0 S a) W n8 ha hm (vR_le B PIh ha) tr0 (fun q => absurd q nrt) (fun q q1 q2 _ => allst q q1 q2) (fun p' q => by
      have e9 : p' = p := D.2.2.1.2.1 _ _ _ q hpa
      rw [e9, hst]; exact E.2.2.2.2.2.2.2.1 _ _ (D.1.2.2.2.2.2.2.2 _ _ hpa).2.2.2.1) hlt (fun j q => by funext i; simp [ch0, cpB, q]) (fun i => by
      have e31 : ch0 S a 31 i = if 8 * a ≤ i ∧ i < 8 * a + 8 then S 41 (5120 + (i - 8 * a)) else S 31 i := by simp [ch0, cpB]
      by_cases y : i = 8 * a + a
      · rw [if_neg (fun z => z.2.2 y), if_pos y]
      · rw [e31]
        by_cases y2 : 8 * a ≤ i ∧ i < 8 * a + 8
        · rw [if_pos y2, if_pos ⟨y2.1, y2.2, y⟩]; exact he41 (i - 8 * a) (by omega)
        · rw [if_neg y2, if_neg (fun z => y2 ⟨z.1, z.2.1⟩), if_neg y]) he heA (fun q => absurd hpa (q p)) (fun x hx _ => hge x hx) hfin hpick (by omega)
end
