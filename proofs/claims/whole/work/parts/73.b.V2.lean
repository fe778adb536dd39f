/-! SIMULATION V2. Laid by wip/whole/gen/p71.py -/
section
variable {S T : mS} {n np : Nat} {A : Rl} {dd : Nat → Nat} {hh : Nat → Prop}
theorem IS_rows (h : ∀ j, j < 32 → j ≠ 15 → j ≠ 27 → j ≠ 0 → T j = S j) : IS T n np A dd hh = IS S n np A dd hh := by
  have e3 := h 3 (by decide) (by decide) (by decide) (by decide)
  have e4 := h 4 (by decide) (by decide) (by decide) (by decide)
  have e6 := h 6 (by decide) (by decide) (by decide) (by decide)
  have e7 := h 7 (by decide) (by decide) (by decide) (by decide)
  have e8 := h 8 (by decide) (by decide) (by decide) (by decide)
  have e9 := h 9 (by decide) (by decide) (by decide) (by decide)
  have e10 := h 10 (by decide) (by decide) (by decide) (by decide)
  have e11 := h 11 (by decide) (by decide) (by decide) (by decide)
  have e12 := h 12 (by decide) (by decide) (by decide) (by decide)
  have e13 := h 13 (by decide) (by decide) (by decide) (by decide)
  have e14 := h 14 (by decide) (by decide) (by decide) (by decide)
  have e16 := h 16 (by decide) (by decide) (by decide) (by decide)
  have e17 := h 17 (by decide) (by decide) (by decide) (by decide)
  have e18 := h 18 (by decide) (by decide) (by decide) (by decide)
  have e19 := h 19 (by decide) (by decide) (by decide) (by decide)
  have e20 := h 20 (by decide) (by decide) (by decide) (by decide)
  have e21 := h 21 (by decide) (by decide) (by decide) (by decide)
  have e22 := h 22 (by decide) (by decide) (by decide) (by decide)
  have e23 := h 23 (by decide) (by decide) (by decide) (by decide)
  have e24 := h 24 (by decide) (by decide) (by decide) (by decide)
  have e25 := h 25 (by decide) (by decide) (by decide) (by decide)
  have e26 := h 26 (by decide) (by decide) (by decide) (by decide)
  have e28 := h 28 (by decide) (by decide) (by decide) (by decide)
  have e29 := h 29 (by decide) (by decide) (by decide) (by decide)
  have e30 := h 30 (by decide) (by decide) (by decide) (by decide)
  have e31 := h 31 (by decide) (by decide) (by decide) (by decide)
  have x_vsp : vsp T = vsp S := by unfold vsp; simp only [N, e3, e4, e6, e7, e8, e9, e10, e11, e12, e13, e14, e16, e17, e18, e19, e20, e21, e22, e23, e24, e25, e26, e28, e29, e30, e31]
  have x_vrt : vrt T n = vrt S n := by unfold vrt; simp only [N, e3, e4, e6, e7, e8, e9, e10, e11, e12, e13, e14, e16, e17, e18, e19, e20, e21, e22, e23, e24, e25, e26, e28, e29, e30, e31]
  have x_vnb : vnb T n = vnb S n := by unfold vnb; simp only [N, e3, e4, e6, e7, e8, e9, e10, e11, e12, e13, e14, e16, e17, e18, e19, e20, e21, e22, e23, e24, e25, e26, e28, e29, e30, e31]
  have x_vms : vms T n = vms S n := by unfold vms; simp only [N, e3, e4, e6, e7, e8, e9, e10, e11, e12, e13, e14, e16, e17, e18, e19, e20, e21, e22, e23, e24, e25, e26, e28, e29, e30, e31]
  have x_vch : vch T n = vch S n := by unfold vch; simp only [N, e3, e4, e6, e7, e8, e9, e10, e11, e12, e13, e14, e16, e17, e18, e19, e20, e21, e22, e23, e24, e25, e26, e28, e29, e30, e31]
  have x_vwt : vwt T n = vwt S n := by unfold vwt; simp only [N, e3, e4, e6, e7, e8, e9, e10, e11, e12, e13, e14, e16, e17, e18, e19, e20, e21, e22, e23, e24, e25, e26, e28, e29, e30, e31]
  have x_vpa : vpa T n = vpa S n := by unfold vpa; simp only [N, e3, e4, e6, e7, e8, e9, e10, e11, e12, e13, e14, e16, e17, e18, e19, e20, e21, e22, e23, e24, e25, e26, e28, e29, e30, e31]
  have x_vhd : vhd T n = vhd S n := by unfold vhd; simp only [N, e3, e4, e6, e7, e8, e9, e10, e11, e12, e13, e14, e16, e17, e18, e19, e20, e21, e22, e23, e24, e25, e26, e28, e29, e30, e31]
  have x_vth : vth T n = vth S n := by unfold vth; simp only [N, e3, e4, e6, e7, e8, e9, e10, e11, e12, e13, e14, e16, e17, e18, e19, e20, e21, e22, e23, e24, e25, e26, e28, e29, e30, e31]
  have x_van : van T n = van S n := by unfold van; simp only [N, e3, e4, e6, e7, e8, e9, e10, e11, e12, e13, e14, e16, e17, e18, e19, e20, e21, e22, e23, e24, e25, e26, e28, e29, e30, e31]
  have x_vse : vse T n = vse S n := by unfold vse; simp only [N, e3, e4, e6, e7, e8, e9, e10, e11, e12, e13, e14, e16, e17, e18, e19, e20, e21, e22, e23, e24, e25, e26, e28, e29, e30, e31]
  have x_vR : vR T = vR S := by unfold vR; simp only [N, e3, e4, e6, e7, e8, e9, e10, e11, e12, e13, e14, e16, e17, e18, e19, e20, e21, e22, e23, e24, e25, e26, e28, e29, e30, e31]
  have x_vtr : vtr T n = vtr S n := by unfold vtr; simp only [N, e3, e4, e6, e7, e8, e9, e10, e11, e12, e13, e14, e16, e17, e18, e19, e20, e21, e22, e23, e24, e25, e26, e28, e29, e30, e31]
  have x_vtq : vtq T n = vtq S n := by unfold vtq; simp only [N, e3, e4, e6, e7, e8, e9, e10, e11, e12, e13, e14, e16, e17, e18, e19, e20, e21, e22, e23, e24, e25, e26, e28, e29, e30, e31]
  have x_vst : vst T n = vst S n := by unfold vst; simp only [N, e3, e4, e6, e7, e8, e9, e10, e11, e12, e13, e14, e16, e17, e18, e19, e20, e21, e22, e23, e24, e25, e26, e28, e29, e30, e31]
  have x_vnr : vnr T n = vnr S n := by unfold vnr; simp only [N, e3, e4, e6, e7, e8, e9, e10, e11, e12, e13, e14, e16, e17, e18, e19, e20, e21, e22, e23, e24, e25, e26, e28, e29, e30, e31]
  have kN : ∀ a, kv T a = kv S a := fun a => by funext b; simp only [kv, N, e31]
  have sN : ∀ nv a cc, s2N T nv a np cc = s2N S nv a np cc := fun nv a cc => by simp only [s2N, s1N, e3, e4, e6, e7, e8, e9, e10, e11, e12, e13, e14, e16, e17, e18, e19, e20, e21, e22, e23, e24, e25, e26, e28, e29, e30, e31]
  have cN : ∀ nv a cc, costN T nv a np cc = costN S nv a np cc := fun nv a cc => by
    show (if s2N T nv a np cc ≤ 1048576 then s2N T nv a np cc else 1048576) = _
    rw [sN]
  have tN : ∀ a cc z i, tabN T a np cc z i = tabN S a np cc z i := fun a cc z i => by simp only [tabN, cN, e3, e4, e6, e7, e8, e9, e10, e11, e12, e13, e14, e16, e17, e18, e19, e20, e21, e22, e23, e24, e25, e26, e28, e29, e30, e31]
  simp only [IS, vDI, vRI, NI, TI, KI, PI, rowK, N, pm, csm, wd, bnd, unN, kN, tN, cN, x_vsp, x_vrt, x_vnb, x_vms, x_vch, x_vwt, x_vpa, x_vhd, x_vth, x_van, x_vse, x_vR, x_vtr, x_vtq, x_vst, x_vnr, e3, e4, e6, e7, e8, e9, e10, e11, e12, e13, e14, e16, e17, e18, e19, e20, e21, e22, e23, e24, e25, e26, e28, e29, e30, e31]
theorem LV_rows {w a b m my mk : Int32} {e : Nat → Int32} (h : ∀ j, j < 32 → j ≠ 15 → j ≠ 27 → j ≠ 0 → T j = S j) : LV T n w a b m my mk e = LV S n w a b m my mk e := by
  have e3 := h 3 (by decide) (by decide) (by decide) (by decide)
  have e4 := h 4 (by decide) (by decide) (by decide) (by decide)
  have e6 := h 6 (by decide) (by decide) (by decide) (by decide)
  have e7 := h 7 (by decide) (by decide) (by decide) (by decide)
  have e8 := h 8 (by decide) (by decide) (by decide) (by decide)
  have e9 := h 9 (by decide) (by decide) (by decide) (by decide)
  have e10 := h 10 (by decide) (by decide) (by decide) (by decide)
  have e11 := h 11 (by decide) (by decide) (by decide) (by decide)
  have e12 := h 12 (by decide) (by decide) (by decide) (by decide)
  have e13 := h 13 (by decide) (by decide) (by decide) (by decide)
  have e14 := h 14 (by decide) (by decide) (by decide) (by decide)
  have e16 := h 16 (by decide) (by decide) (by decide) (by decide)
  have e17 := h 17 (by decide) (by decide) (by decide) (by decide)
  have e18 := h 18 (by decide) (by decide) (by decide) (by decide)
  have e19 := h 19 (by decide) (by decide) (by decide) (by decide)
  have e20 := h 20 (by decide) (by decide) (by decide) (by decide)
  have e21 := h 21 (by decide) (by decide) (by decide) (by decide)
  have e22 := h 22 (by decide) (by decide) (by decide) (by decide)
  have e23 := h 23 (by decide) (by decide) (by decide) (by decide)
  have e24 := h 24 (by decide) (by decide) (by decide) (by decide)
  have e25 := h 25 (by decide) (by decide) (by decide) (by decide)
  have e26 := h 26 (by decide) (by decide) (by decide) (by decide)
  have e28 := h 28 (by decide) (by decide) (by decide) (by decide)
  have e29 := h 29 (by decide) (by decide) (by decide) (by decide)
  have e30 := h 30 (by decide) (by decide) (by decide) (by decide)
  have e31 := h 31 (by decide) (by decide) (by decide) (by decide)
  have x_vsp : vsp T = vsp S := by unfold vsp; simp only [N, e3, e4, e6, e7, e8, e9, e10, e11, e12, e13, e14, e16, e17, e18, e19, e20, e21, e22, e23, e24, e25, e26, e28, e29, e30, e31]
  have x_vrt : vrt T n = vrt S n := by unfold vrt; simp only [N, e3, e4, e6, e7, e8, e9, e10, e11, e12, e13, e14, e16, e17, e18, e19, e20, e21, e22, e23, e24, e25, e26, e28, e29, e30, e31]
  have x_vnb : vnb T n = vnb S n := by unfold vnb; simp only [N, e3, e4, e6, e7, e8, e9, e10, e11, e12, e13, e14, e16, e17, e18, e19, e20, e21, e22, e23, e24, e25, e26, e28, e29, e30, e31]
  have x_vms : vms T n = vms S n := by unfold vms; simp only [N, e3, e4, e6, e7, e8, e9, e10, e11, e12, e13, e14, e16, e17, e18, e19, e20, e21, e22, e23, e24, e25, e26, e28, e29, e30, e31]
  have x_vch : vch T n = vch S n := by unfold vch; simp only [N, e3, e4, e6, e7, e8, e9, e10, e11, e12, e13, e14, e16, e17, e18, e19, e20, e21, e22, e23, e24, e25, e26, e28, e29, e30, e31]
  have x_vwt : vwt T n = vwt S n := by unfold vwt; simp only [N, e3, e4, e6, e7, e8, e9, e10, e11, e12, e13, e14, e16, e17, e18, e19, e20, e21, e22, e23, e24, e25, e26, e28, e29, e30, e31]
  have x_vpa : vpa T n = vpa S n := by unfold vpa; simp only [N, e3, e4, e6, e7, e8, e9, e10, e11, e12, e13, e14, e16, e17, e18, e19, e20, e21, e22, e23, e24, e25, e26, e28, e29, e30, e31]
  have x_vhd : vhd T n = vhd S n := by unfold vhd; simp only [N, e3, e4, e6, e7, e8, e9, e10, e11, e12, e13, e14, e16, e17, e18, e19, e20, e21, e22, e23, e24, e25, e26, e28, e29, e30, e31]
  have x_vth : vth T n = vth S n := by unfold vth; simp only [N, e3, e4, e6, e7, e8, e9, e10, e11, e12, e13, e14, e16, e17, e18, e19, e20, e21, e22, e23, e24, e25, e26, e28, e29, e30, e31]
  have x_van : van T n = van S n := by unfold van; simp only [N, e3, e4, e6, e7, e8, e9, e10, e11, e12, e13, e14, e16, e17, e18, e19, e20, e21, e22, e23, e24, e25, e26, e28, e29, e30, e31]
  have x_vse : vse T n = vse S n := by unfold vse; simp only [N, e3, e4, e6, e7, e8, e9, e10, e11, e12, e13, e14, e16, e17, e18, e19, e20, e21, e22, e23, e24, e25, e26, e28, e29, e30, e31]
  have x_vR : vR T = vR S := by unfold vR; simp only [N, e3, e4, e6, e7, e8, e9, e10, e11, e12, e13, e14, e16, e17, e18, e19, e20, e21, e22, e23, e24, e25, e26, e28, e29, e30, e31]
  have x_vtr : vtr T n = vtr S n := by unfold vtr; simp only [N, e3, e4, e6, e7, e8, e9, e10, e11, e12, e13, e14, e16, e17, e18, e19, e20, e21, e22, e23, e24, e25, e26, e28, e29, e30, e31]
  have x_vtq : vtq T n = vtq S n := by unfold vtq; simp only [N, e3, e4, e6, e7, e8, e9, e10, e11, e12, e13, e14, e16, e17, e18, e19, e20, e21, e22, e23, e24, e25, e26, e28, e29, e30, e31]
  have x_vst : vst T n = vst S n := by unfold vst; simp only [N, e3, e4, e6, e7, e8, e9, e10, e11, e12, e13, e14, e16, e17, e18, e19, e20, e21, e22, e23, e24, e25, e26, e28, e29, e30, e31]
  have x_vnr : vnr T n = vnr S n := by unfold vnr; simp only [N, e3, e4, e6, e7, e8, e9, e10, e11, e12, e13, e14, e16, e17, e18, e19, e20, e21, e22, e23, e24, e25, e26, e28, e29, e30, e31]
  simp only [LV, rowK, N, wd, unN, x_vsp, x_vrt, x_vnb, x_vms, x_vch, x_vwt, x_vpa, x_vhd, x_vth, x_van, x_vse, x_vR, x_vtr, x_vtq, x_vst, x_vnr, e3, e4, e6, e7, e8, e9, e10, e11, e12, e13, e14, e16, e17, e18, e19, e20, e21, e22, e23, e24, e25, e26, e28, e29, e30, e31]
end
