/-! SIMULATION S7. Laid by wip/whole/gen/p71.py -/
section
variable {S T : mS} {n np : Nat} {A : Rl} {dd : Nat → Nat} {hh : Nat → Prop} {ex : Nat}
theorem IX_rows (h : ∀ j, j < 32 → j ≠ 15 → j ≠ 27 → j ≠ 0 → T j = S j) : IX T n np A dd hh ex = IX S n np A dd hh ex := by
  have e3 := h 3 (by decide) (by decide) (by decide) (by decide)
  have e4 := h 4 (by decide) (by decide) (by decide) (by decide)
  have e6 := h 6 (by decide) (by decide) (by decide) (by decide)
  have e7 := h 7 (by decide) (by decide) (by decide) (by decide)
  have e8 := h 8 (by decide) (by decide) (by decide) (by decide)
  have e9 := h 9 (by decide) (by decide) (by decide) (by decide)
  have e10 := h 10 (by decide) (by decide) (by decide) (by decide)
  have e11 := h 11 (by decide) (by decide) (by decide) (by decide)
  have e12 := h 12 (by decide) (by decide) (by decide) (by decide)
  have e13 := h 13 (by decide) (by decide) (by decide) (by decide)
  have e14 := h 14 (by decide) (by decide) (by decide) (by decide)
  have e16 := h 16 (by decide) (by decide) (by decide) (by decide)
  have e17 := h 17 (by decide) (by decide) (by decide) (by decide)
  have e18 := h 18 (by decide) (by decide) (by decide) (by decide)
  have e19 := h 19 (by decide) (by decide) (by decide) (by decide)
  have e20 := h 20 (by decide) (by decide) (by decide) (by decide)
  have e21 := h 21 (by decide) (by decide) (by decide) (by decide)
  have e22 := h 22 (by decide) (by decide) (by decide) (by decide)
  have e23 := h 23 (by decide) (by decide) (by decide) (by decide)
  have e24 := h 24 (by decide) (by decide) (by decide) (by decide)
  have e25 := h 25 (by decide) (by decide) (by decide) (by decide)
  have e26 := h 26 (by decide) (by decide) (by decide) (by decide)
  have e28 := h 28 (by decide) (by decide) (by decide) (by decide)
  have e29 := h 29 (by decide) (by decide) (by decide) (by decide)
  have e30 := h 30 (by decide) (by decide) (by decide) (by decide)
  have e31 := h 31 (by decide) (by decide) (by decide) (by decide)
  have x_vsp : vsp T = vsp S := by unfold vsp; simp only [N, e3, e4, e6, e7, e8, e9, e10, e11, e12, e13, e14, e16, e17, e18, e19, e20, e21, e22, e23, e24, e25, e26, e28, e29, e30, e31]
  have x_vrt : vrt T n = vrt S n := by unfold vrt; simp only [N, e3, e4, e6, e7, e8, e9, e10, e11, e12, e13, e14, e16, e17, e18, e19, e20, e21, e22, e23, e24, e25, e26, e28, e29, e30, e31]
  have x_vnb : vnb T n = vnb S n := by unfold vnb; simp only [N, e3, e4, e6, e7, e8, e9, e10, e11, e12, e13, e14, e16, e17, e18, e19, e20, e21, e22, e23, e24, e25, e26, e28, e29, e30, e31]
  have x_vms : vms T n = vms S n := by unfold vms; simp only [N, e3, e4, e6, e7, e8, e9, e10, e11, e12, e13, e14, e16, e17, e18, e19, e20, e21, e22, e23, e24, e25, e26, e28, e29, e30, e31]
  have x_vch : vch T n = vch S n := by unfold vch; simp only [N, e3, e4, e6, e7, e8, e9, e10, e11, e12, e13, e14, e16, e17, e18, e19, e20, e21, e22, e23, e24, e25, e26, e28, e29, e30, e31]
  have x_vwt : vwt T n = vwt S n := by unfold vwt; simp only [N, e3, e4, e6, e7, e8, e9, e10, e11, e12, e13, e14, e16, e17, e18, e19, e20, e21, e22, e23, e24, e25, e26, e28, e29, e30, e31]
  have x_vpa : vpa T n = vpa S n := by unfold vpa; simp only [N, e3, e4, e6, e7, e8, e9, e10, e11, e12, e13, e14, e16, e17, e18, e19, e20, e21, e22, e23, e24, e25, e26, e28, e29, e30, e31]
  have x_vhd : vhd T n = vhd S n := by unfold vhd; simp only [N, e3, e4, e6, e7, e8, e9, e10, e11, e12, e13, e14, e16, e17, e18, e19, e20, e21, e22, e23, e24, e25, e26, e28, e29, e30, e31]
  have x_vth : vth T n = vth S n := by unfold vth; simp only [N, e3, e4, e6, e7, e8, e9, e10, e11, e12, e13, e14, e16, e17, e18, e19, e20, e21, e22, e23, e24, e25, e26, e28, e29, e30, e31]
  have x_van : van T n = van S n := by unfold van; simp only [N, e3, e4, e6, e7, e8, e9, e10, e11, e12, e13, e14, e16, e17, e18, e19, e20, e21, e22, e23, e24, e25, e26, e28, e29, e30, e31]
  have x_vse : vse T n = vse S n := by unfold vse; simp only [N, e3, e4, e6, e7, e8, e9, e10, e11, e12, e13, e14, e16, e17, e18, e19, e20, e21, e22, e23, e24, e25, e26, e28, e29, e30, e31]
  have x_vR : vR T = vR S := by unfold vR; simp only [N, e3, e4, e6, e7, e8, e9, e10, e11, e12, e13, e14, e16, e17, e18, e19, e20, e21, e22, e23, e24, e25, e26, e28, e29, e30, e31]
  have x_vtr : vtr T n = vtr S n := by unfold vtr; simp only [N, e3, e4, e6, e7, e8, e9, e10, e11, e12, e13, e14, e16, e17, e18, e19, e20, e21, e22, e23, e24, e25, e26, e28, e29, e30, e31]
  have x_vtq : vtq T n = vtq S n := by unfold vtq; simp only [N, e3, e4, e6, e7, e8, e9, e10, e11, e12, e13, e14, e16, e17, e18, e19, e20, e21, e22, e23, e24, e25, e26, e28, e29, e30, e31]
  have x_vst : vst T n = vst S n := by unfold vst; simp only [N, e3, e4, e6, e7, e8, e9, e10, e11, e12, e13, e14, e16, e17, e18, e19, e20, e21, e22, e23, e24, e25, e26, e28, e29, e30, e31]
  have x_vnr : vnr T n = vnr S n := by unfold vnr; simp only [N, e3, e4, e6, e7, e8, e9, e10, e11, e12, e13, e14, e16, e17, e18, e19, e20, e21, e22, e23, e24, e25, e26, e28, e29, e30, e31]
  have kN : ∀ a, kv T a = kv S a := fun a => by funext b; simp only [kv, N, e31]
  have sN : ∀ nv a cc, s2N T nv a np cc = s2N S nv a np cc := fun nv a cc => by simp only [s2N, s1N, e3, e4, e6, e7, e8, e9, e10, e11, e12, e13, e14, e16, e17, e18, e19, e20, e21, e22, e23, e24, e25, e26, e28, e29, e30, e31]
  have cN : ∀ nv a cc, costN T nv a np cc = costN S nv a np cc := fun nv a cc => by
    show (if s2N T nv a np cc ≤ 1048576 then s2N T nv a np cc else 1048576) = _
    rw [sN]
  have tN : ∀ a cc z i, tabN T a np cc z i = tabN S a np cc z i := fun a cc z i => by simp only [tabN, cN, e3, e4, e6, e7, e8, e9, e10, e11, e12, e13, e14, e16, e17, e18, e19, e20, e21, e22, e23, e24, e25, e26, e28, e29, e30, e31]
  simp only [IX, vDI, vRI, NI, TX, KI, PI, rowK, N, pm, csm, wd, bnd, unN, kN, tN, cN, x_vsp, x_vrt, x_vnb, x_vms, x_vch, x_vwt, x_vpa, x_vhd, x_vth, x_van, x_vse, x_vR, x_vtr, x_vtq, x_vst, x_vnr, e3, e4, e6, e7, e8, e9, e10, e11, e12, e13, e14, e16, e17, e18, e19, e20, e21, e22, e23, e24, e25, e26, e28, e29, e30, e31]
end
section
variable {S S' C : mS} {n np nl T : Nat} {sz : Nat → Nat → Nat} {hx : Nat}
def PS (S S' : mS) (nl : Nat) (w a b m my mk : Int32) : Prop := (nl = 20 ∧ S' = S) ∨ (nl < 20 ∧ S' 34 0 = nI (nl + 1) ∧ (∀ j, 0 < j → j < 34 → S' j = S j) ∧ (S' 35 nl = w ∧ S' 36 nl = a ∧ S' 37 nl = b ∧ S' 38 nl = m ∧ S' 39 nl = my ∧ S' 40 nl = mk) ∧ (∀ j k, 35 ≤ j → j ≤ 40 → k ≠ nl → S' j k = S j k) ∧ ∀ i, i < 256 * nl → S' 41 i = S 41 i)
theorem PS_lo {w a b m my mk : Int32} (h : PS S S' nl w a b m my mk) : ∀ j, 0 < j → j < 34 → S' j = S j := by
  rcases h with ⟨-, e⟩ | ⟨-, -, h, -⟩
  · rw [e]; exact fun _ _ _ => rfl
  · exact h
/-- the same letter, by what it shows -/
theorem LV_cong {w a b m my mk : Int32} {e e' : Nat → Int32} (he : ∀ i, i < 256 → e i = e' i) (h : LV S n w a b m my mk e) : LV S n w a b m my mk e' := by
  obtain ⟨f, t, h1, h2, h3, h4, h⟩ := h
  refine ⟨f, t, h1, h2, h3, h4, ?_⟩
  rcases h with k | k | ⟨k1, k2, k3, k4, k5, k6, k7, r, k8, k9, k10, k11⟩ | ⟨k1, k2, k3, k4, r, k5, k6, k7, k8⟩
  · exact Or.inl k
  · exact Or.inr (Or.inl k)
  · refine Or.inr (Or.inr (Or.inl ⟨k1, k2, k3, k4, k5, k6, fun i hi => by rw [← he i (by omega)]; exact k7 i hi, r, k8, k9, k10, k11.imp_right (fun q => ⟨q.1, q.2.1, fun i hi => by rw [← he i (by omega)]; exact q.2.2 i hi⟩)⟩))
  · refine Or.inr (Or.inr (Or.inr ⟨k1, k2, fun x hx => by rw [← he x (by omega)]; exact k3 x hx, by rw [k4]; exact congrArg nI (ccR_c 8 (fun i hi => by rw [he i (by omega)])), r, k5, k6, k7, k8.imp_right (fun q => ⟨q.1, q.2.1, fun x hx => by rw [← he x (by omega)]; exact q.2.2 x hx⟩)⟩))
theorem post_L {w a b m my mk : Int32} (h : PS S S' nl w a b m my mk) (hV : nl < 20 → LV S n w a b m my mk (fun i => S' 41 (256 * nl + i))) (hL : ∀ k, k < nl → LVk S n k) : ∀ k, k < nlS nl → LVk S' n k := by
  intro k hk
  have lo := PS_lo h
  have er : ∀ {w a b m my mk : Int32} {e : Nat → Int32}, LV S' n w a b m my mk e = LV S n w a b m my mk e := LV_rows (fun j q _ _ q0 => lo j (by omega) (by omega))
  unfold LVk
  rw [er]
  rcases h with ⟨e1, e2⟩ | ⟨h1, h2, h3, ⟨g1, g2, g3, g4, g5, g6⟩, h5, h6⟩
  · rw [e2]
    have : nlS nl = nl := if_neg (by omega)
    exact hL k (by omega)
  · have : nlS nl = nl + 1 := if_pos h1
    by_cases e : k = nl
    · rw [e, g1, g2, g3, g4, g5, g6]; exact hV h1
    · have hk' : k < nl := by omega
      rw [h5 35 k (by decide) (by decide) e, h5 36 k (by decide) (by decide) e, h5 37 k (by decide) (by decide) e, h5 38 k (by decide) (by decide) e, h5 39 k (by decide) (by decide) e, h5 40 k (by decide) (by decide) e]
      exact LV_cong (fun i hi => (h6 _ (by omega)).symm) (hL k hk')
theorem post_B {w a b m my mk : Int32} (h : PS S S' nl w a b m my mk) (B : BI S n np nl T) : BI S' n np (nlS nl) T := by
  have lo := PS_lo h
  obtain ⟨⟨b1, b2, b3, b4, b5, b6, b7⟩, B3, B2, BP, B4, B8, B26, B9, BN, BA, BC, BT⟩ := B
  have r1 := lo 1 (by decide) (by decide)
  have r2 := lo 2 (by decide) (by decide)
  have r3 := lo 3 (by decide) (by decide)
  have r4 := lo 4 (by decide) (by decide)
  have r5 := lo 5 (by decide) (by decide)
  have r6 := lo 6 (by decide) (by decide)
  have r7 := lo 7 (by decide) (by decide)
  have r8 := lo 8 (by decide) (by decide)
  have r9 := lo 9 (by decide) (by decide)
  have r12 := lo 12 (by decide) (by decide)
  have r13 := lo 13 (by decide) (by decide)
  have r14 := lo 14 (by decide) (by decide)
  have r15 := lo 15 (by decide) (by decide)
  have r16 := lo 16 (by decide) (by decide)
  have r19 := lo 19 (by decide) (by decide)
  have r20 := lo 20 (by decide) (by decide)
  have r21 := lo 21 (by decide) (by decide)
  have r23 := lo 23 (by decide) (by decide)
  have r26 := lo 26 (by decide) (by decide)
  have r28 := lo 28 (by decide) (by decide)
  have r29 := lo 29 (by decide) (by decide)
  have b5' : S' 34 0 = nI (nlS nl) ∧ nlS nl ≤ 20 := by
    rcases h with ⟨e1, e2⟩ | ⟨h1, h2, -⟩
    · have : nlS nl = nl := if_neg (by omega)
      rw [e2, this]; exact ⟨b5, b6⟩
    · have : nlS nl = nl + 1 := if_pos h1
      rw [this]; exact ⟨h2, by omega⟩
  refine ⟨⟨by rw [r1]; exact b1, b2, by rw [r5]; exact b3, b4, b5'.1, b5'.2, by rw [r2]; exact b7⟩, ?_, ?_, ?_, ?_, ?_, ?_, ?_, ?_, ?_, ?_, BT⟩
  · simp only [nn, N]; rw [r3]; exact B3
  · simp only [N]; rw [r3]; exact B2
  · simp only [vnb]; rw [r6, r7, r9]; exact BP
  · simp only [nn, N]; rw [r4]; exact B4
  · simp only [nn, N]; rw [r8]; exact B8
  · simp only [nn, N]; rw [r26]; exact B26
  · rw [r9]; exact B9
  · simp only [vnb]; rw [r9]; exact BN
  · simp only [nn, N]; rw [r12, r13, r14, r15, r16, r19, r21, r23, r28, r29]; exact BA
  · simp only [N]; rw [r20, r21]; exact BC
theorem post_M {w a b m my mk wl : Int32} {f : Nat → Int32} (h : PS S S' nl w a b m my mk) (hs : sz 8 0 = nl) (hwl : nl < 20 → wl = (if w = 2 then my else if w = 3 then 8 else -1)) (h2 : nl < 20 → w = 2 → my.toNatClampNeg ≤ 256 ∧ ∀ i, i < my.toNatClampNeg → f i = un (S' 41 (256 * nl + i))) (h3 : nl < 20 → w = 3 → ∀ i, i < 8 → f i = S' 41 (256 * nl + i)) (h256 : ∀ k, k < nl → S 35 k = 2 → N S 39 k ≤ 256)
    (M : SIM S C n np nl sz hx) : SIM S' (sndC C nl w a b m wl f) n np (nlS nl) (lu sz 8 0 (nlS nl)) hx := by
  have lo := PS_lo h
  obtain ⟨M1, MG, ME, MC, MT, MK, MO, MP, MQ, ML⟩ := M
  have r2 := lo 2 (by decide) (by decide)
  have r3 := lo 3 (by decide) (by decide)
  have r4 := lo 4 (by decide) (by decide)
  have r6 := lo 6 (by decide) (by decide)
  have r7 := lo 7 (by decide) (by decide)
  have r8 := lo 8 (by decide) (by decide)
  have r9 := lo 9 (by decide) (by decide)
  have r10 := lo 10 (by decide) (by decide)
  have r11 := lo 11 (by decide) (by decide)
  have r12 := lo 12 (by decide) (by decide)
  have r13 := lo 13 (by decide) (by decide)
  have r14 := lo 14 (by decide) (by decide)
  have r15 := lo 15 (by decide) (by decide)
  have r16 := lo 16 (by decide) (by decide)
  have r17 := lo 17 (by decide) (by decide)
  have r18 := lo 18 (by decide) (by decide)
  have r19 := lo 19 (by decide) (by decide)
  have r20 := lo 20 (by decide) (by decide)
  have r21 := lo 21 (by decide) (by decide)
  have r22 := lo 22 (by decide) (by decide)
  have r23 := lo 23 (by decide) (by decide)
  have r25 := lo 25 (by decide) (by decide)
  have r26 := lo 26 (by decide) (by decide)
  have r27 := lo 27 (by decide) (by decide)
  have r28 := lo 28 (by decide) (by decide)
  have r29 := lo 29 (by decide) (by decide)
  have r31 := lo 31 (by decide) (by decide)
  have c1 : (sndC C nl w a b m wl f) 1 = C 1 := sndC_row (by decide) (by decide) (by decide) (by decide) (by decide) (by decide) (by decide)
  have c3 : (sndC C nl w a b m wl f) 3 = C 3 := sndC_row (by decide) (by decide) (by decide) (by decide) (by decide) (by decide) (by decide)
  have c4 : (sndC C nl w a b m wl f) 4 = C 4 := sndC_row (by decide) (by decide) (by decide) (by decide) (by decide) (by decide) (by decide)
  have c5 : (sndC C nl w a b m wl f) 5 = C 5 := sndC_row (by decide) (by decide) (by decide) (by decide) (by decide) (by decide) (by decide)
  have c9 : (sndC C nl w a b m wl f) 9 = C 9 := sndC_row (by decide) (by decide) (by decide) (by decide) (by decide) (by decide) (by decide)
  have c10 : (sndC C nl w a b m wl f) 10 = C 10 := sndC_row (by decide) (by decide) (by decide) (by decide) (by decide) (by decide) (by decide)
  have c11 : (sndC C nl w a b m wl f) 11 = C 11 := sndC_row (by decide) (by decide) (by decide) (by decide) (by decide) (by decide) (by decide)
  have c12 : (sndC C nl w a b m wl f) 12 = C 12 := sndC_row (by decide) (by decide) (by decide) (by decide) (by decide) (by decide) (by decide)
  have c15 : (sndC C nl w a b m wl f) 15 = C 15 := sndC_row (by decide) (by decide) (by decide) (by decide) (by decide) (by decide) (by decide)
  have c16 : (sndC C nl w a b m wl f) 16 = C 16 := sndC_row (by decide) (by decide) (by decide) (by decide) (by decide) (by decide) (by decide)
  have c17 : (sndC C nl w a b m wl f) 17 = C 17 := sndC_row (by decide) (by decide) (by decide) (by decide) (by decide) (by decide) (by decide)
  have c18 : (sndC C nl w a b m wl f) 18 = C 18 := sndC_row (by decide) (by decide) (by decide) (by decide) (by decide) (by decide) (by decide)
  have c22 : (sndC C nl w a b m wl f) 22 = C 22 := sndC_row (by decide) (by decide) (by decide) (by decide) (by decide) (by decide) (by decide)
  have c23 : (sndC C nl w a b m wl f) 23 = C 23 := sndC_row (by decide) (by decide) (by decide) (by decide) (by decide) (by decide) (by decide)
  have c27 : (sndC C nl w a b m wl f) 27 = C 27 := sndC_row (by decide) (by decide) (by decide) (by decide) (by decide) (by decide) (by decide)
  have c28 : (sndC C nl w a b m wl f) 28 = C 28 := sndC_row (by decide) (by decide) (by decide) (by decide) (by decide) (by decide) (by decide)
  have c50 : (sndC C nl w a b m wl f) 50 = C 50 := sndC_row (by decide) (by decide) (by decide) (by decide) (by decide) (by decide) (by decide)
  have c51 : (sndC C nl w a b m wl f) 51 = C 51 := sndC_row (by decide) (by decide) (by decide) (by decide) (by decide) (by decide) (by decide)
  have c52 : (sndC C nl w a b m wl f) 52 = C 52 := sndC_row (by decide) (by decide) (by decide) (by decide) (by decide) (by decide) (by decide)
  have c53 : (sndC C nl w a b m wl f) 53 = C 53 := sndC_row (by decide) (by decide) (by decide) (by decide) (by decide) (by decide) (by decide)
  have c54 : (sndC C nl w a b m wl f) 54 = C 54 := sndC_row (by decide) (by decide) (by decide) (by decide) (by decide) (by decide) (by decide)
  have c55 : (sndC C nl w a b m wl f) 55 = C 55 := sndC_row (by decide) (by decide) (by decide) (by decide) (by decide) (by decide) (by decide)
  have c56 : (sndC C nl w a b m wl f) 56 = C 56 := sndC_row (by decide) (by decide) (by decide) (by decide) (by decide) (by decide) (by decide)
  have c57 : (sndC C nl w a b m wl f) 57 = C 57 := sndC_row (by decide) (by decide) (by decide) (by decide) (by decide) (by decide) (by decide)
  have c58 : (sndC C nl w a b m wl f) 58 = C 58 := sndC_row (by decide) (by decide) (by decide) (by decide) (by decide) (by decide) (by decide)
  have c59 : (sndC C nl w a b m wl f) 59 = C 59 := sndC_row (by decide) (by decide) (by decide) (by decide) (by decide) (by decide) (by decide)
  have c60 : (sndC C nl w a b m wl f) 60 = C 60 := sndC_row (by decide) (by decide) (by decide) (by decide) (by decide) (by decide) (by decide)
  have c62 : (sndC C nl w a b m wl f) 62 = C 62 := sndC_row (by decide) (by decide) (by decide) (by decide) (by decide) (by decide) (by decide)
  have c63 : (sndC C nl w a b m wl f) 63 = C 63 := sndC_row (by decide) (by decide) (by decide) (by decide) (by decide) (by decide) (by decide)
  have c64 : (sndC C nl w a b m wl f) 64 = C 64 := sndC_row (by decide) (by decide) (by decide) (by decide) (by decide) (by decide) (by decide)
  have c65 : (sndC C nl w a b m wl f) 65 = C 65 := sndC_row (by decide) (by decide) (by decide) (by decide) (by decide) (by decide) (by decide)
  have c66 : (sndC C nl w a b m wl f) 66 = C 66 := sndC_row (by decide) (by decide) (by decide) (by decide) (by decide) (by decide) (by decide)
  refine ⟨?_, ?_, ?_, ?_, ?_, ?_, ?_, ?_, ?_, ?_⟩
  · obtain ⟨m1, m2, m3, m4, m5, m6, m7, m8⟩ := M1
    exact ⟨by rw [c1]; exact m1, by rw [c5]; exact m2, sndC_34 m3, by rw [c60, r2]; exact m4, by rw [c27, r27]; exact m5, m6, m7, lu_eq⟩
  · exact MG_rows r3 r9 r10 r15 r16 r17 r18 r22 r23 r28 c3 c9 c10 c15 c16 c17 c18 c22 c23 c28 MG
  · exact ME_rows r13 r14 r19 c50 c51 ME
  · exact mC_rows r19 r20 r21 r23 r25 r26 c52 c53 c54 c55 c56 (fun _ => rfl) MC
  · exact MT_rows r23 r25 r26 c57 c58 MT
  · exact MK_rows r28 r31 c59 c66 MK
  · exact MO_rows r4 c4 MO
  · exact MP_rows r6 r7 r8 c62 c63 c64 MP
  · exact MQ_rows r10 r11 r12 r29 c11 c12 c65 (fun _ => rfl) MQ
  · intro k hk
    rcases h with ⟨e1, e2⟩ | ⟨q1, q2, q3, ⟨g1, g2, g3, g4, g5, g6⟩, q5, q6⟩
    · have : nlS nl = nl := if_neg (by omega)
      rw [e2, show sndC C nl w a b m wl f = C from if_neg (by omega)]
      exact ML k (by omega)
    · have : nlS nl = nl + 1 := if_pos q1
      rw [show sndC C nl w a b m wl f = mu (ltS C nl w a b m wl f) 34 0 (nI (nl + 1)) from if_pos q1]
      have d35 : ∀ y, (mu (ltS C nl w a b m wl f) 34 0 (nI (nl + 1))) 35 y = if y = nl then w else C 35 y := fun y => by simp [ltS, tbS, mu]
      have d36 : ∀ y, (mu (ltS C nl w a b m wl f) 34 0 (nI (nl + 1))) 36 y = if y = nl then a else C 36 y := fun y => by simp [ltS, tbS, mu]
      have d37 : ∀ y, (mu (ltS C nl w a b m wl f) 34 0 (nI (nl + 1))) 37 y = if y = nl then b else C 37 y := fun y => by simp [ltS, tbS, mu]
      have d38 : ∀ y, (mu (ltS C nl w a b m wl f) 34 0 (nI (nl + 1))) 38 y = if y = nl then m else C 38 y := fun y => by simp [ltS, tbS, mu]
      have d67 : ∀ y, (mu (ltS C nl w a b m wl f) 34 0 (nI (nl + 1))) 67 y = if y = nl then wl else C 67 y := fun y => by simp [ltS, tbS, mu]
      have d68 : ∀ y, (mu (ltS C nl w a b m wl f) 34 0 (nI (nl + 1))) 68 y = if 256 * nl ≤ y ∧ y < 256 * nl + 256 then f (y - 256 * nl) else C 68 y := fun y => by simp [ltS, tbS, mu]
      unfold mL1
      rw [d35, d36, d37, d38, d67]
      by_cases e : k = nl
      · rw [if_pos e, if_pos e, if_pos e, if_pos e, if_pos e, e, g1, g2, g3, g4, g5]
        refine ⟨rfl, rfl, rfl, rfl, hwl q1, fun z i hi => ?_, fun z i hi => ?_⟩
        · have hi' : i < my.toNatClampNeg := by
            have : i < (S' 39 nl).toNatClampNeg := hi
            rw [g5] at this; exact this
          have z2 := h2 q1 z
          rw [d68, if_pos (by omega), show 256 * nl + i - 256 * nl = i by omega]
          exact z2.2 i hi'
        · rw [d68, if_pos (by omega), show 256 * nl + i - 256 * nl = i by omega]; exact h3 q1 z i hi
      · have hk' : k < nl := by omega
        obtain ⟨l1, l2, l3, l4, l5, l6, l7⟩ := ML k hk'
        have e39 := q5 39 k (by decide) (by decide) e
        have n39 : N S' 39 k = N S 39 k := by simp only [N, e39]
        rw [if_neg e, if_neg e, if_neg e, if_neg e, if_neg e, q5 35 k (by decide) (by decide) e, q5 36 k (by decide) (by decide) e, q5 37 k (by decide) (by decide) e, q5 38 k (by decide) (by decide) e, e39, n39]
        refine ⟨l1, l2, l3, l4, l5, fun z i hi => ?_, fun z i hi => ?_⟩
        · have := h256 k hk' z
          rw [d68, if_neg (by omega), q6 _ (by omega)]; exact l6 z i hi
        · rw [d68, if_neg (by omega), q6 _ (by omega)]; exact l7 z i hi
theorem PS_pst {w a b x : Int32} (hn : S 34 0 = nI nl) (h20 : nl ≤ 20) : PS S (pstS S w a b x) nl w a b x 0 0 := by
  unfold pstS
  rcases Nat.lt_or_ge nl 20 with q | q
  · rw [if_neg (by rw [hn]; intro e; have := nI_inj (b := 20) (by omega) (by omega) e; omega)]
    have en : (S 34 0).toNatClampNeg = nl := N_nI hn (by omega)
    refine Or.inr ⟨q, ?_, ?_, ?_, ?_, ?_⟩
    · unfold postS; rw [hn, nI_1]; simp [mu]
    · intro j q0 qj
      funext i
      unfold postS
      rw [en]
      have : j ≠ 34 ∧ j ≠ 35 ∧ j ≠ 36 ∧ j ≠ 37 ∧ j ≠ 38 ∧ j ≠ 39 ∧ j ≠ 40 := by omega
      simp [mu, this]
    · unfold postS; rw [en]; simp [mu]
    · intro j k h1 h2 hk
      unfold postS; rw [en]
      simp [mu, hk]
      omega
    · intro i hi
      unfold postS; rw [en]; simp [mu]
  · refine Or.inl ⟨by omega, if_pos ?_⟩
    rw [hn, show nl = 20 by omega]; rfl
end
