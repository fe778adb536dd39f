/-! SIMULATION S20. Laid by wip/whole/gen/p71.py -/
section
variable {S C : mS} {n np nl T : Nat} {sz : Nat → Nat → Nat} {A : Rl} {dd : Nat → Nat} {hh : Nat → Prop} {hx ex : Nat}
theorem pairF_fg {a b : Int32} : ∀ k p q, pairF S a b k p = nI q → q < 2 ^ 31 → p + k ≤ 2 ^ 31 → (S 6 q = a ∧ S 7 q = b) ∨ (S 6 q = b ∧ S 7 q = a)
  | 0, p, q, h, hq, _ => absurd h.symm (nI_m1' hq)
  | k + 1, p, q, h, hq, hp => by
    rw [pairF] at h
    by_cases z : (S 6 p = a ∧ S 7 p = b) ∨ (S 6 p = b ∧ S 7 p = a)
    · rw [if_pos z] at h
      have : p = q := nI_inj (by omega) hq h
      rw [← this]; exact z
    · rw [if_neg z] at h; exact pairF_fg k (p + 1) q h hq (by omega)
/-- a change of a cost -/
theorem chg_W {k l p v w q : Nat} {c : Int32} (W : WI S C n np nl T sz A dd noH 8 8) (hT : T + 1 < 2 ^ 30) (hst : stF S n = 1 ∨ stF S n = 2) (hk : k < n) (hl : l < n) (hp : p < np) (hpf : pairF S (nI k) (nI l) np 0 = nI p) (hv : v < 4) (hw : w < 4) (hc : isCostS c) (hq : S 10 k = nI q) (hq8 : q < 8) :
    WI (cg0 S p k v w c q) (mu (mu (mu C 64 (16 * p + (if C 62 p = nI k then 4 * v + w else 4 * w + v)) c) 12 q (C 12 q + 1)) 27 0 0) n np nl (T + 1) sz A dd noH 8 (if cI (S 17 k) (nI l) then k else l) ∧
    ((if cI (S 17 k) (nI l) then k else l) < n ∧ S 12 q + 1 = nI (vR (cg0 S p k v w c q) (if cI (S 17 k) (nI l) then k else l)) ∧ vth (cg0 S p k v w c q) n (if cI (S 17 k) (nI l) then k else l) ∧ (∀ d, vch (cg0 S p k v w c q) n (if cI (S 17 k) (nI l) then k else l) d → 0 < vtq (cg0 S p k v w c q) n d) ∧ (∀ d, 0 < vtq (cg0 S p k v w c q) n d → wd (cg0 S p k v w c q) d ≤ 256) ∧
      vtr (cg0 S p k v w c q) n (if cI (S 17 k) (nI l) then k else l) < vR (cg0 S p k v w c q) (if cI (S 17 k) (nI l) then k else l) ∧ (2 ≤ vR (cg0 S p k v w c q) (if cI (S 17 k) (nI l) then k else l) → ∀ x y, vpa (cg0 S p k v w c q) n x y → vsp (cg0 S p k v w c q) x (if cI (S 17 k) (nI l) then k else l) → vtq (cg0 S p k v w c q) n x = vtr (cg0 S p k v w c q) n x) ∧
      (∀ x, A x (if cI (S 17 k) (nI l) then k else l) → vtr (cg0 S p k v w c q) n x < vR (cg0 S p k v w c q) (if cI (S 17 k) (nI l) then k else l)) ∧ (0 < vtr (cg0 S p k v w c q) n (if cI (S 17 k) (nI l) then k else l) → (cg0 S p k v w c q) 25 (if cI (S 17 k) (nI l) then k else l) = nI (wd (cg0 S p k v w c q) (if cI (S 17 k) (nI l) then k else l)) ∧ wd (cg0 S p k v w c q) (if cI (S 17 k) (nI l) then k else l) ≤ 256)) := by
  obtain ⟨w1, B, M, IXh, LVs, CDh, Z5h⟩ := id W
  have n8 := B.1.2.1
  have n12 := B.1.2.2.2.1
  have hI := (IX8 n8).mp IXh
  obtain ⟨D, E, NIh, TIh, KIh, PIh⟩ := id hI
  have fg := pairF_fg (S := S) (a := nI k) (b := nI l) np 0 p hpf (by omega) (by omega)
  obtain ⟨f, g, f1, f2, f3, f4, f5⟩ := B.2.2.2.1 p hp
  have fk : (f = k ∧ g = l) ∨ (f = l ∧ g = k) := by
    rcases fg with ⟨z1, z2⟩ | ⟨z1, z2⟩
    · exact Or.inl ⟨nI_inj (by omega) (by omega) (f3.symm.trans z1), nI_inj (by omega) (by omega) (f4.symm.trans z2)⟩
    · exact Or.inr ⟨nI_inj (by omega) (by omega) (f3.symm.trans z1), nI_inj (by omega) (by omega) (f4.symm.trans z2)⟩
  have nbkl : vnb S n k l := by
    rcases fk with ⟨z1, z2⟩ | ⟨z1, z2⟩
    · rw [← z1, ← z2]; exact f5
    · rw [← z1, ← z2]; exact (B.2.2.2.2.2.2.2.2.1 _ _ f5).1
  have spkl : vsp S k l := (D.2.2.1.2.2.2.1 k l nbkl).2.1
  have symm := D.2.2.1.2.2.2.2.2.2.2.2.1
  have trans := D.2.2.1.2.2.2.2.2.2.2.2.2.1
  generalize hlow : (if cI (S 17 k) (nI l) then k else l) = low
  have lowkl : low = k ∨ low = l := by rw [← hlow]; split; exact Or.inl rfl; exact Or.inr rfl
  have hln : low < n := by rcases lowkl with z | z <;> omega
  have hq' : S 10 low = nI q := by
    rcases lowkl with z | z
    · rw [z]; exact hq
    · rw [z]; exact (show S 10 k = S 10 l from spkl) ▸ hq
  have hlo : ∀ x, x < n → upN S x p → x = low := fun x hxn hu => by
    unfold upN at hu
    rw [f3, f4] at hu
    have asym : ∀ x y, x < n → y < n → cI (S 17 x) (nI y) → cI (S 17 y) (nI x) → False := fun x y hxn hyn z1 z2 => by
      have a1 := D.2.2.2.1.1 x y ⟨hxn, by omega, z1⟩
      have a2 := D.2.2.2.1.1 y x ⟨hyn, by omega, z2⟩
      exact (D.2.1.2.2.2.2.1 _ _ (D.2.1.2.2.2.2.2.2 _ _ _ a1 a2)).2.2.2 rfl
    have done : ∀ x y, (x = k ∧ y = l) ∨ (x = l ∧ y = k) → cI (S 17 x) (nI y) → x = low := fun x y z1 z2 => by
      rw [← hlow]
      rcases z1 with ⟨e1, e2⟩ | ⟨e1, e2⟩
      · rw [e1, e2] at z2; rw [if_pos z2, e1]
      · rw [e1, e2] at z2
        rw [if_neg (fun z3 => asym l k hl hk z2 z3), e1]
    rcases hu with ⟨z1, z2⟩ | ⟨z1, z2⟩
    · have e : f = x := nI_inj (by omega) (by omega) z1
      exact done x g (by rw [← e]; exact fk) z2
    · have e : g = x := nI_inj (by omega) (by omega) z1
      exact done x f (by rw [← e]; exact fk.elim (fun z => Or.inr ⟨z.2, z.1⟩) (fun z => Or.inl ⟨z.2, z.1⟩)) z2
  -- the root of the part
  obtain ⟨q0, r, k1, k2, k3, k4, k5⟩ := PIh.1 low hln
  have eq0 : q0 = q := nI_inj (by omega) (by omega) (k3.symm.trans hq')
  rw [eq0] at k4 k5
  have hrt : vrt S n r := ⟨k2, by rw [show N S 10 r = q from N_nI k5 (by omega)]; exact k4⟩
  have hrl : vsp S r low := k5.trans hq'.symm
  obtain ⟨s2, sall⟩ := st_12 hst
  have vRq : ∀ x, S 10 x = nI q → vR S x = N S 12 q := fun x z => by unfold vR; rw [show N S 10 x = q from N_nI z (by omega)]
  have nn12 := (B.2.2.2.2.2.2.2.2.2.1 q hq8).2.2.2.2.2.2.1
  have fate : (∀ x, x < n → vsp S x r → vst S n x = vR S x) ∨ vnr S n r = vR S r := by
    by_cases z : lostS S low
    · refine Or.inr ?_
      have z' : S 29 (S 11 (S 10 low).toNatClampNeg).toNatClampNeg = S 12 (S 10 low).toNatClampNeg := z
      rw [hq', nI_clamp (by omega), k4, nI_clamp (by omega)] at z'
      rw [vRq r k5]; unfold vnr; rw [if_pos k2]; show (S 29 r).toNatClampNeg = (S 12 q).toNatClampNeg; rw [z']
    · refine Or.inl (fun x hx sx => ?_)
      have sq : S 10 x = nI q := (show S 10 x = S 10 r from sx).trans k5
      have nl : ¬ lostS S x := fun y => z (by
        have y' : S 29 (S 11 (S 10 x).toNatClampNeg).toNatClampNeg = S 12 (S 10 x).toNatClampNeg := y
        show S 29 (S 11 (S 10 low).toNatClampNeg).toNatClampNeg = S 12 (S 10 low).toNatClampNeg
        rw [hq', ← sq]; exact y')
      have y := ((sall x hx).2.resolve_right nl).2
      have y' : S 28 x = S 12 (S 10 x).toNatClampNeg := y
      rw [sq, nI_clamp (by omega)] at y'
      rw [vRq x sq]; unfold vst; rw [if_pos hx]; show (S 28 x).toNatClampNeg = (S 12 q).toNatClampNeg; rw [y']
  have hlt : vtr S n r = vR S r := by
    rcases fate with z | z
    · exact E.2.2.2.2.2.1 r hrt (z r k2 rfl)
    · exact ((E.2.2.2.2.2.2.1 r).2 hrt z).1
  have nost : vnr S n r = vR S r → ∀ x, x < n → vsp S x r → vst S n x ≠ vR S x := fun z x hx sx y => ((E.2.2.2.2.2.2.1 r).2 hrt z).2 (E.2.2.2.2.1 x r hx y hrt (symm _ _ sx))
  have R1 := (E.1.2.2.2.2.1 r k2).1
  have trp : ∀ x, vhd S n x → vsp S x r → 0 < vtr S n x := fun x hx sx => by
    obtain ⟨r', z1, z2, z3⟩ := D.2.2.1.2.2.2.2.2.1 x hx
    have e : r' = r := D.2.2.1.2.2.2.2.2.2.1 r' r z1 hrt (trans _ _ _ z2 sx)
    rw [e] at z3
    rcases z3 with z3 | z3
    · exact Nat.lt_of_lt_of_le (E.2.2.1 r x z3 (by omega)) (E.1.2.2.1 x)
    · rw [← z3]; omega
  have hall : ∀ x, x < n → vsp S x r → 0 < vtr S n x := fun x hx sx => by
    have z := PIh.2.2 r hrt (fun y => vsp S y r ∧ vhd S n y) ⟨rfl, D.1.2.1 _ (E.1.1 r (by omega))⟩ (fun y z h1 h2 => by
      have ty := E.1.1 y (trp y h1.2 h1.1)
      have c4 := D.2.2.1.2.2.2.1 y z h2
      exact ⟨trans _ _ _ (symm _ _ c4.2.1) h1.1, (D.1.2.2.2.1 _ _ (D.2.1.2.2.1 y z ty h2)).2⟩) x hx sx
    exact trp x z.2 sx
  have heq : ∀ x y, vpa S n x y → vsp S x r → vst S n x = vst S n y := fun x y z1 z2 => by
    have p8 := D.1.2.2.2.2.2.2.2 x y z1
    have hy : y < n := D.1.1 y p8.2.1
    have syr : vsp S y r := trans _ _ _ (symm _ _ p8.2.2.2.1) z2
    rcases fate with z | z
    · rw [z x z1.1 z2, z y hy syr]; exact E.2.2.2.2.2.2.2.1 _ _ p8.2.2.2.1
    · exact E.2.2.2.2.2.2.2.2.2 x y z1 (nost z y hy syr)
  have T12 : ∀ x, N (cg0 S p k v w c q) 12 x = if x = q then N S 12 q + 1 else N S 12 x := fun x => by
    have e : (cg0 S p k v w c q) 12 x = if x = q then S 12 q + 1 else S 12 x := by simp [cg0, mu]
    show ((cg0 S p k v w c q) 12 x).toNatClampNeg = _
    rw [e]
    by_cases z : x = q
    · rw [if_pos z, if_pos z, nn12.1, nI_1, nI_clamp (by have := nn12.2; omega)]
    · rw [if_neg z, if_neg z]
  have row : ∀ j, j ≠ 0 → j ≠ 8 → j ≠ 12 → j ≠ 27 → (cg0 S p k v w c q) j = S j := fun j q1 q2 q3 q4 => by rw [cg0, mu_row q4, mu_row q3, mu_row q2, mu_row q1]
  have f8' : ∀ i, ¬ (16 * p ≤ i ∧ i < 16 * p + 16) → (cg0 S p k v w c q) 8 i = S 8 i := fun i hi => by
    have l2 : (if S 6 p = nI k then 4 * v + w else 4 * w + v) < 16 := by split <;> omega
    have : i ≠ plS S p (nI k) v w := by show i ≠ 16 * p + (if S 6 p = nI k then 4 * v + w else 4 * w + v); omega
    simp [cg0, mu, this]
  have hrow : ∀ j, j ∈ [3, 4, 6, 7, 8, 9, 10, 11, 12, 13, 14, 16, 17, 18, 19, 20, 21, 22, 23, 24, 25, 26, 28, 29, 30, 31] → j ≠ 8 → j ≠ 12 → (cg0 S p k v w c q) j = S j := fun j hj z1 z2 => row j (fun e => by rw [e] at hj; exact absurd hj (by decide)) z1 z2 (fun e => by rw [e] at hj; exact absurd hj (by decide))
  have IX2 := IX_chg (T := cg0 S p k v w c q) (p := p) hI n8 B.2.1 B.2.2.1 (bi_pr B) hrow T12 f8' hlo hln hq' hq8 hrt hrl hall hlt heq
  have s5 : sz 5 q = 1 := M.2.2.2.2.2.2.2.2.1.1 k q hk hq8 hq
  have v10 := row 10 (by decide) (by decide) (by decide) (by decide)
  have vRT : ∀ x, S 10 x = nI q → vR (cg0 S p k v w c q) x = vR S x + 1 := fun x z => by
    show N (cg0 S p k v w c q) 12 ((cg0 S p k v w c q) 10 x).toNatClampNeg = _
    rw [v10, z, nI_clamp (by omega), T12, if_pos rfl, vRq x z]
  have h3' : ∀ x, x < n → ¬ vsp S x r → vR (cg0 S p k v w c q) x = vR S x := fun x hx z => by
    obtain ⟨q', r', j1, j2, j3, -⟩ := PIh.1 x hx
    show N (cg0 S p k v w c q) 12 ((cg0 S p k v w c q) 10 x).toNatClampNeg = N S 12 (S 10 x).toNatClampNeg
    rw [v10, T12, if_neg (fun e => z (by
      rw [j3, nI_clamp (by omega)] at e
      show S 10 x = S 10 r; rw [j3, k5, e]))]
  have sym6 : S 6 p = nI k ∨ S 7 p = nI k := by
    rcases fk with ⟨z1, z2⟩ | ⟨z1, z2⟩
    · exact Or.inl (by rw [f3, z1])
    · exact Or.inr (by rw [f4, z2])
  have tr' : vtr (cg0 S p k v w c q) n = vtr S n := by unfold vtr N; rw [row 23 (by decide) (by decide) (by decide) (by decide)]
  have tq' : vtq (cg0 S p k v w c q) n = vtq S n := by unfold vtq N; rw [row 23 (by decide) (by decide) (by decide) (by decide)]
  have ch' : vch (cg0 S p k v w c q) n = vch S n := by unfold vch N; rw [row 20 (by decide) (by decide) (by decide) (by decide), row 21 (by decide) (by decide) (by decide) (by decide)]
  have pa' : vpa (cg0 S p k v w c q) n = vpa S n := by unfold vpa; rw [row 16 (by decide) (by decide) (by decide) (by decide)]
  have sp' : vsp (cg0 S p k v w c q) = vsp S := by unfold vsp; rw [v10]
  have th' : vth (cg0 S p k v w c q) n = vth S n := by unfold vth; rw [row 14 (by decide) (by decide) (by decide) (by decide)]
  have wd' : ∀ x, wd (cg0 S p k v w c q) x = wd S x := fun x => by simp only [wd, unN, row 3 (by decide) (by decide) (by decide) (by decide), row 22 (by decide) (by decide) (by decide) (by decide)]
  have lt0 := hall low hln (symm _ _ hrl)
  have Rlow : vR S low = vR S r := E.2.2.2.2.2.2.2.1 _ _ (symm _ _ hrl)
  have trle : ∀ x, vsp S x low → vtr S n x ≤ vR S low := fun x z => by rw [← E.2.2.2.2.2.2.2.1 _ _ z]; exact E.1.2.2.2.1 x
  refine ⟨⟨by rw [row 2 (by decide) (by decide) (by decide) (by decide)]; exact w1, BI_chg hp hv hw hc hT B, SIM_chg n8 B hp (by omega) sym6 hv hw hc hq8 s5 M, IX2, fun j hj => ?_, CD_r CDh (row 20 (by decide) (by decide) (by decide) (by decide)) (row 21 (by decide) (by decide) (by decide) (by decide)), Z5_r Z5h v10 (fun _ => rfl)⟩, hln, ?_, by rw [th']; exact E.1.1 low lt0, fun d hd => by rw [tq']; rw [ch'] at hd; exact E.1.2.1 low d lt0 hd, fun d hd => by rw [wd']; rw [tq'] at hd; exact (TIh.1 d (Nat.lt_of_lt_of_le hd (E.1.2.2.1 d))).2.2.1, ?_, fun _ x y z1 z2 => ?_, fun x z => ?_, fun _ => ?_⟩
  · have := LVs j hj
    unfold LVk at *
    rw [row 35 (by decide) (by decide) (by decide) (by decide), row 36 (by decide) (by decide) (by decide) (by decide), row 37 (by decide) (by decide) (by decide) (by decide), row 38 (by decide) (by decide) (by decide) (by decide), row 39 (by decide) (by decide) (by decide) (by decide), row 40 (by decide) (by decide) (by decide) (by decide), row 41 (by decide) (by decide) (by decide) (by decide)]
    exact LV_chg hI hrow hrt hlt h3' (fun x y z1 z2 z3 => by
      have p8 := D.1.2.2.2.2.2.2.2 x y z1
      have hy : y < n := D.1.1 y p8.2.1
      have syr : vsp S y r := trans _ _ _ (symm _ _ p8.2.2.2.1) z2
      rcases fate with z | z
      · rw [z x z1.1 z2]; exact Nat.le_refl _
      · exact absurd (z3.trans (E.2.2.2.2.2.2.2.1 _ _ p8.2.2.2.1)) (nost z y hy syr)) this
  · rw [vRT low hq', vRq low hq', nn12.1, nI_1]
  · rw [tr', vRT low hq']; have := E.1.2.2.2.1 low; omega
  · rw [pa'] at z1; rw [sp'] at z2; rw [tq', tr']
    exact E.2.1 r x y hrt hlt z1 (trans _ _ _ z2 (symm _ _ hrl))
  · rw [tr', vRT low hq']; have := trle x (D.2.1.2.2.2.2.1 _ _ z).2.2.1; omega
  · rw [row 25 (by decide) (by decide) (by decide) (by decide), wd']
    have t := TIh.1 low lt0
    exact ⟨t.2.1, t.2.2.1⟩
end
