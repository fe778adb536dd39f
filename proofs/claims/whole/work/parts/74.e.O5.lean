/-! SIMULATION O5. Laid by wip/whole/gen/p71.py -/
section
variable {S T : mS} {n np : Nat} {A : Rl} {dd : Nat → Nat} {hh : Nat → Prop}
theorem cost_cg {a cc : Nat} (ha : a < 8) (hp : ∀ p, p < np → N S 6 p < 8 ∧ N S 7 p < 8) {nv nw : Nat → Nat} (h : ∀ x, x < 8 → nv x = nw x) : costN S nv a np cc = costN S nw a np cc := by
  have e1 : s1N S nv a np = s1N S nw a np := s1_cong (h a ha) np (fun p q _ => ⟨h _ (hp p q).1, h _ (hp p q).2⟩)
  have e : s2N S nv a np cc = s2N S nw a np cc := by
    show s2R (s1N S nv a np) _ _ _ _ _ _ _ = s2R (s1N S nw a np) _ _ _ _ _ _ _
    rw [e1]
    exact s2_cong cc (fun j _ b hb _ => h b hb)
  show (if s2N S nv a np cc ≤ 1048576 then s2N S nv a np cc else 1048576) = _
  rw [e]
theorem IX_chg {low q r p : Nat} (hI : IS S n np A dd hh) (h8 : n ≤ 8) (h3 : ∀ b, b < 8 → nn S 3 b 4) (h2 : ∀ b, b < n → 2 ≤ N S 3 b) (hp : ∀ p, p < np → N S 6 p < 8 ∧ N S 7 p < 8) (hrow : ∀ j, j ∈ [3, 4, 6, 7, 8, 9, 10, 11, 12, 13, 14, 16, 17, 18, 19, 20, 21, 22, 23, 24, 25, 26, 28, 29, 30, 31] → j ≠ 8 → j ≠ 12 → T j = S j) (f12 : ∀ x, N T 12 x = if x = q then N S 12 q + 1 else N S 12 x) (f8 : ∀ i, ¬ (16 * p ≤ i ∧ i < 16 * p + 16) → T 8 i = S 8 i)
    (hlo : ∀ x, x < n → upN S x p → x = low) (hl : low < n) (hq : S 10 low = nI q) (hq8 : q < 8) (hr : vrt S n r) (hrl : vsp S r low) (hall : ∀ x, x < n → vsp S x r → 0 < vtr S n x) (hlt : vtr S n r = vR S r) (heq : ∀ x y, vpa S n x y → vsp S x r → vst S n x = vst S n y) :
    IX T n np A dd hh low := by
  obtain ⟨D, E, NIh, TIh, KIh, PIh⟩ := hI
  have e3 := hrow 3 (by decide) (by decide) (by decide)
  have e4 := hrow 4 (by decide) (by decide) (by decide)
  have e6 := hrow 6 (by decide) (by decide) (by decide)
  have e7 := hrow 7 (by decide) (by decide) (by decide)
  have e9 := hrow 9 (by decide) (by decide) (by decide)
  have e10 := hrow 10 (by decide) (by decide) (by decide)
  have e11 := hrow 11 (by decide) (by decide) (by decide)
  have e13 := hrow 13 (by decide) (by decide) (by decide)
  have e14 := hrow 14 (by decide) (by decide) (by decide)
  have e16 := hrow 16 (by decide) (by decide) (by decide)
  have e17 := hrow 17 (by decide) (by decide) (by decide)
  have e18 := hrow 18 (by decide) (by decide) (by decide)
  have e19 := hrow 19 (by decide) (by decide) (by decide)
  have e20 := hrow 20 (by decide) (by decide) (by decide)
  have e21 := hrow 21 (by decide) (by decide) (by decide)
  have e22 := hrow 22 (by decide) (by decide) (by decide)
  have e23 := hrow 23 (by decide) (by decide) (by decide)
  have e24 := hrow 24 (by decide) (by decide) (by decide)
  have e25 := hrow 25 (by decide) (by decide) (by decide)
  have e26 := hrow 26 (by decide) (by decide) (by decide)
  have e28 := hrow 28 (by decide) (by decide) (by decide)
  have e29 := hrow 29 (by decide) (by decide) (by decide)
  have e30 := hrow 30 (by decide) (by decide) (by decide)
  have e31 := hrow 31 (by decide) (by decide) (by decide)
  have x_vsp : vsp (T) = vsp S := by unfold vsp; simp only [N, e10]
  have x_vrt : vrt (T) n = vrt S n := by unfold vrt; simp only [N, e10, e11]
  have x_vnb : vnb (T) n = vnb S n := by unfold vnb; simp only [N, e9]
  have x_vms : vms (T) n = vms S n := by unfold vms; simp only [N, e18]
  have x_vch : vch (T) n = vch S n := by unfold vch; simp only [N, e20, e21]
  have x_vwt : vwt (T) n = vwt S n := by unfold vwt; simp only [N, e19]
  have x_vpa : vpa (T) n = vpa S n := by unfold vpa; simp only [N, e16]
  have x_vhd : vhd (T) n = vhd S n := by unfold vhd; simp only [N, e13]
  have x_vth : vth (T) n = vth S n := by unfold vth; simp only [N, e14]
  have x_van : van (T) n = van S n := by unfold van; simp only [N, e17]
  have x_vse : vse (T) n = vse S n := by unfold vse; simp only [N, e22]
  have x_vtr : vtr (T) n = vtr S n := by unfold vtr; simp only [N, e23]
  have x_vtq : vtq (T) n = vtq S n := by unfold vtq; simp only [N, e23]
  have x_vst : vst (T) n = vst S n := by unfold vst; simp only [N, e28]
  have x_vnr : vnr (T) n = vnr S n := by unfold vnr; simp only [N, e29]
  have PIe : PI (T) n = PI S n := by simp only [PI, x_vrt, x_vnb, x_vsp, e10, e11]
  have hrq : S 10 r = nI q := hrl.trans hq
  have vRx : ∀ x, vR T x = if N S 10 x = q then vR S x + 1 else vR S x := fun x => by
    show N T 12 (T 10 x).toNatClampNeg = _
    rw [e10, f12]
    by_cases z : N S 10 x = q
    · have z' : (S 10 x).toNatClampNeg = q := z
      rw [if_pos z, if_pos z']; show _ = N S 12 (N S 10 x) + 1; rw [z]
    · have z' : ¬ (S 10 x).toNatClampNeg = q := z
      rw [if_neg z, if_neg z']; rfl
  have h1 : ∀ x, vR T x = vR S x ∨ vR T x = vR S x + 1 := fun x => by rw [vRx]; split <;> simp
  have hb2 : ∀ x, vsp S x r → vR T x = vR S x + 1 := fun x z => by
    rw [vRx, if_pos]
    exact N_nI ((show S 10 x = S 10 r from z).trans hrq) (by omega)
  have hb3 : ∀ x, x < n → ¬ vsp S x r → vR T x = vR S x := fun x hx z => by
    rw [vRx, if_neg]
    intro e
    obtain ⟨q', r', k1, k2, k3, -⟩ := PIh.1 x hx
    have : q' = q := by rw [← e]; exact (N_nI k3 (by omega)).symm
    exact z (by show S 10 x = S 10 r; rw [hrq, k3, this])
  have hb4 : ∀ x y, vsp S x y → vR T x = vR T y := fun x y z => by
    show N T 12 (N T 10 x) = N T 12 (N T 10 y)
    have : T 10 x = T 10 y := by rw [e10]; exact z
    simp only [N]; rw [this]
  have E' := RI_bump (R' := vR T) D E hr hall hlt h1 hb2 hb3 hb4 heq
  have cN : ∀ nv x cc, nvok S n nv → x ≠ low → x < n → costN T nv x np cc = costN S nv x np cc := fun nv x cc hnv hx hxn => by
    have : s2N T nv x np cc = s2N S nv x np cc := by
      simp only [s2N, s1N, e3, e4, e6, e7, e17, e20, e24, e26]
      rw [s1_c (c' := S 8) np (fun p' hp' hup => ?_)]
      refine f8 _ (fun z => hx (hlo x hxn ?_))
      have k := hp p' hp'
      have n1 : nv (S 6 p').toNatClampNeg < 4 := (hnv _ k.1).1
      have n2 : nv (S 7 p').toNatClampNeg < 4 := (hnv _ k.2).1
      have : p' = p := by omega
      rw [← this]; exact hup
    show (if s2N T nv x np cc ≤ 1048576 then s2N T nv x np cc else 1048576) = _
    rw [this]
  have sen : ∀ c x, vse S n c x → x < n := fun c x q => D.1.1 _ (D.2.1.2.2.2.2.1 _ _ (D.2.2.2.1.2.1 _ _ q)).1
  have vtn : ∀ x, 0 < vtr S n x → x < n := fun x q => by
    rcases Nat.lt_or_ge x n with z | z
    · exact z
    · unfold vtr at q; rw [if_neg (by omega)] at q; omega
  refine ⟨?_, ?_, ?_, ⟨?_, ?_⟩, ?_, ?_⟩
  · unfold vDI; rw [x_vsp, x_vrt, x_vnb, x_vms, x_vch, x_vwt, x_vpa, x_vhd, x_vth, x_van, x_vse]; exact D
  · unfold vRI; rw [x_vsp, x_vrt, x_vch, x_vpa, x_vhd, x_vth, x_vtr, x_vtq, x_vst, x_vnr]; exact E'
  · have : NI T n dd = NI S n dd := by simp only [NI, csm, pm, N, x_vhd, x_vwt, e18, e20, e21]
    rw [this]; exact NIh
  · intro x hx z
    rw [x_vtr] at z
    have hxn := vtn x z
    have z0 := TIh.1 x z
    have tN : ∀ i, tabN T x np (N S 21 x) (N S 3 x) i = tabN S x np (N S 21 x) (N S 3 x) i := fun i => by
      simp only [tabN, e3, e22]
      exact blR_c _ (fun k hk => cN _ _ _ (nv_dg h3 h2 hxn hk (fun y hy q => sen x y ⟨hxn, hy, q⟩)) hx hxn)
    have e1 : N T 21 x = N S 21 x := by simp only [N, e21]
    have e2 : N T 3 x = N S 3 x := by simp only [N, e3]
    rw [e1, e2]
    simp only [tN]
    simp only [wd, bnd, N, pm, unN, e3, e18, e22, e24, e25, e26] at z0 ⊢
    exact z0
  · have := TIh.2
    rw [x_vtq, x_vtr]
    simp only [wd, bnd, N, pm, unN, e3, e18, e22, e24, e25, e26] at this ⊢
    exact this
  · intro x hx
    have z := KIh x hx
    have kN : kv T x = kv S x := by funext b; simp only [kv, N, e31]
    rw [x_vst, kN, x_vpa]
    have nkv := nv_kv (a := x) h3 h2 z.1
    have e1 : N T 21 x = N S 21 x := by simp only [N, e21]
    rw [e1]
    refine ⟨?_, ?_, ?_, ?_, fun w => ?_⟩
    · have := z.1; simp only [rowK, N, e3, e31] at this ⊢; exact this
    · rw [e31]; exact z.2.1
    · rw [e31, e30]; exact z.2.2.1
    · rw [e31]; exact z.2.2.2.1
    · have ns : ¬ vsp S x r := fun y => by
        have k1 := hb2 x y
        have k2 := (E.2.2.2.1 x).1
        omega
      have hxl : x ≠ low := fun e => ns (by rw [e]; exact hrl.symm)
      rw [cN _ _ _ nkv hxl hx]
      exact z.2.2.2.2 (by rw [← hb3 x hx ns]; exact w)
  · rw [PIe]; exact PIh
variable {w f t m my mk : Int32} {e : Nat → Int32}
/-- a letter stays good -/
theorem LV_mono (h3 : T 3 = S 3) (hhd : ∀ x, vhd S n x → vhd T n x) (hwt : ∀ x y, vwt S n x y → ¬ vhd T n y → vwt T n x y ∧ T 18 x = S 18 x) (hth : ∀ x, vth S n x → vth T n x ∧ T 18 x = S 18 x ∧ T 22 x = S 22 x) (hpa : ∀ x y, vpa S n x y → vpa T n x y)
    (htq : ∀ x r, r ≤ vtq S n x → r ≤ vtq T n x) (htr : ∀ x y, vpa S n x y → vtr S n x = vR S x → 0 < vtr S n x → vtr S n x ≤ vtq T n x ∨ (vtr T n x = vtr S n x ∧ vR T x = vR S x ∧ ∀ i, i < wd S x → T 26 (256 * x + i) = S 26 (256 * x + i)))
    (hst : ∀ x r, r ≤ vst S n x → r ≤ vst T n x) (hkn : ∀ x y, vpa S n x y → vst S n y = vR S x → 0 < vR S x → vR S x ≤ vst T n x ∨ (vR T x = vR S x ∧ vst T n y = vst S n y ∧ ∀ z, z < 8 → T 31 (8 * y + z) = S 31 (8 * y + z))) (h : LV S n w f t m my mk e) : LV T n w f t m my mk e := by
  obtain ⟨a, b, h1, h2, ha, hb, h⟩ := h
  refine ⟨a, b, h1, h2, ha, hb, ?_⟩
  rcases h with ⟨k1, k2, k3⟩ | ⟨k1, k2, k3, k4, k5⟩ | ⟨k1, k2, k3, k4, k5, k6, k7, r, k8, k9, k10, k11⟩ | ⟨k1, k2, k3, k4, r, k5, k6, k7, k8⟩
  · refine Or.inl ⟨k1, k2, fun q => ?_⟩
    have z := k3 (fun y => q (hhd b y))
    have y := hwt a b z.1 q
    exact ⟨y.1, by rw [y.2]; exact z.2⟩
  · exact Or.inr (Or.inl ⟨k1, k2, (hth a k3).1, hpa _ _ k4, by rw [(hth a k3).2.1]; exact k5⟩)
  · have y := hth a k2
    have wde : wd T a = wd S a := by simp only [wd, unN, h3, y.2.2]
    refine Or.inr (Or.inr (Or.inl ⟨k1, y.1, hpa _ _ k3, by rw [y.2.2]; exact k4, by rw [wde]; exact k5, by rw [wde]; exact k6, by rw [wde]; exact k7, r, k8, k9, k10, ?_⟩))
    rcases k11 with q | ⟨q1, q2, q3⟩
    · exact Or.inl (htq a r q)
    · rcases htr a b k3 q2 (by omega) with q | ⟨z1, z2, z3⟩
      · exact Or.inl (by omega)
      · refine Or.inr ⟨by omega, by omega, fun i hi => ?_⟩
        rw [wde] at hi
        rw [z3 i hi]; exact q3 i hi
  · refine Or.inr (Or.inr (Or.inr ⟨k1, hpa _ _ k2, ?_, k4, r, k5, k6, k7, ?_⟩))
    · unfold rowK at k3 ⊢; simp only [N, h3]; exact k3
    · rcases k8 with q | ⟨q1, q2, q3⟩
      · exact Or.inl (hst b r q)
      · rcases hkn b a k2 q2 (by omega) with q | ⟨z1, z2, z3⟩
        · exact Or.inl (by omega)
        · exact Or.inr ⟨by omega, by omega, fun x hx => by rw [z3 x hx]; exact q3 x hx⟩
end
