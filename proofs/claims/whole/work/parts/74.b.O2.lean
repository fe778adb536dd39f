/-! SIMULATION O2. Laid by wip/whole/gen/p71.py -/
section
variable {S : mS} {n np : Nat} {A : Rl} {dd : Nat → Nat} {hh : Nat → Prop}
theorem s2_ch {s a : Nat} {ch ch' ms ce z : Nat → Int32} {nv : Nat → Nat} : ∀ k, (∀ j, j < k → ch (8 * a + j) = ch' (8 * a + j)) → s2R s ch ms ce z nv a k = s2R s ch' ms ce z nv a k
  | 0, _ => rfl
  | k + 1, h => by rw [s2R, s2R, s2_ch k (fun j hj => h j (by omega)), h k (by omega)]
theorem IS_root {a : Nat} (hI : IS S n np A dd hh) (h8 : n ≤ 8) (hn : ∀ x, ¬ hh x) (ha : a < n) (hna : ¬ vhd S n a) (hr : vrt S n a) (hcc : N S 21 a = 0) (h17 : S 17 a = 0) (h16 : S 16 a = -1)
    (CH : ∀ a k, a < n → k < N S 21 a → ∃ c, c < n ∧ S 20 (8 * a + k) = nI c) :
    IS (rt0 S a (-1) 0) n np A (upn dd a 0) (fun x => x = a) := by
  obtain ⟨D, E, NIh, TIh, KIh, PIh⟩ := hI
  have e3 : (rt0 S a (-1) 0) 3 = S 3 := by funext i; simp [rt0, mu]
  have e4 : (rt0 S a (-1) 0) 4 = S 4 := by funext i; simp [rt0, mu]
  have e6 : (rt0 S a (-1) 0) 6 = S 6 := by funext i; simp [rt0, mu]
  have e7 : (rt0 S a (-1) 0) 7 = S 7 := by funext i; simp [rt0, mu]
  have e8 : (rt0 S a (-1) 0) 8 = S 8 := by funext i; simp [rt0, mu]
  have e9 : (rt0 S a (-1) 0) 9 = S 9 := by funext i; simp [rt0, mu]
  have e10 : (rt0 S a (-1) 0) 10 = S 10 := by funext i; simp [rt0, mu]
  have e11 : (rt0 S a (-1) 0) 11 = S 11 := by funext i; simp [rt0, mu]
  have e12 : (rt0 S a (-1) 0) 12 = S 12 := by funext i; simp [rt0, mu]
  have e14 : (rt0 S a (-1) 0) 14 = S 14 := by funext i; simp [rt0, mu]
  have e19 : (rt0 S a (-1) 0) 19 = S 19 := by funext i; simp [rt0, mu]
  have e20 : (rt0 S a (-1) 0) 20 = S 20 := by funext i; simp [rt0, mu]
  have e21 : (rt0 S a (-1) 0) 21 = S 21 := by funext i; simp [rt0, mu]
  have e22 : (rt0 S a (-1) 0) 22 = S 22 := by funext i; simp [rt0, mu]
  have e23 : (rt0 S a (-1) 0) 23 = S 23 := by funext i; simp [rt0, mu]
  have e24 : (rt0 S a (-1) 0) 24 = S 24 := by funext i; simp [rt0, mu]
  have e25 : (rt0 S a (-1) 0) 25 = S 25 := by funext i; simp [rt0, mu]
  have e26 : (rt0 S a (-1) 0) 26 = S 26 := by funext i; simp [rt0, mu]
  have e28 : (rt0 S a (-1) 0) 28 = S 28 := by funext i; simp [rt0, mu]
  have e29 : (rt0 S a (-1) 0) 29 = S 29 := by funext i; simp [rt0, mu]
  have e30 : (rt0 S a (-1) 0) 30 = S 30 := by funext i; simp [rt0, mu]
  have e31 : (rt0 S a (-1) 0) 31 = S 31 := by funext i; simp [rt0, mu]
  have e13 : ∀ x, (rt0 S a (-1) 0) 13 x = if x = a then 1 else S 13 x := fun x => by simp [rt0, mu]
  have e16 : (rt0 S a (-1) 0) 16 = S 16 := by
    funext x; by_cases q : x = a
    · rw [q, h16]; simp [rt0, mu]
    · simp [rt0, mu, q]
  have e17 : (rt0 S a (-1) 0) 17 = S 17 := by
    funext x; by_cases q : x = a
    · rw [q, h17]; simp [rt0, mu]
    · simp [rt0, mu, q]
  have e18 : ∀ x, (rt0 S a (-1) 0) 18 x = if x = a then ((0 : Int32) ||| 1 <<< (nI a &&& 31)) else S 18 x := fun x => by simp [rt0, mu]
  have x_vsp : vsp (rt0 S a (-1) 0) = vsp S := by unfold vsp; simp only [N, e10]
  have x_vrt : vrt (rt0 S a (-1) 0) n = vrt S n := by unfold vrt; simp only [N, e10, e11]
  have x_vnb : vnb (rt0 S a (-1) 0) n = vnb S n := by unfold vnb; simp only [N, e9]
  have x_vch : vch (rt0 S a (-1) 0) n = vch S n := by unfold vch; simp only [N, e20, e21]
  have x_vwt : vwt (rt0 S a (-1) 0) n = vwt S n := by unfold vwt; simp only [N, e19]
  have x_vpa : vpa (rt0 S a (-1) 0) n = vpa S n := by unfold vpa; simp only [N, e16]
  have x_vth : vth (rt0 S a (-1) 0) n = vth S n := by unfold vth; simp only [N, e14]
  have x_van : van (rt0 S a (-1) 0) n = van S n := by unfold van; simp only [N, e17]
  have x_vse : vse (rt0 S a (-1) 0) n = vse S n := by unfold vse; simp only [N, e22]
  have x_vR : vR (rt0 S a (-1) 0) = vR S := by unfold vR; simp only [N, e10, e12]
  have x_vtr : vtr (rt0 S a (-1) 0) n = vtr S n := by unfold vtr; simp only [N, e23]
  have x_vtq : vtq (rt0 S a (-1) 0) n = vtq S n := by unfold vtq; simp only [N, e23]
  have x_vst : vst (rt0 S a (-1) 0) n = vst S n := by unfold vst; simp only [N, e28]
  have x_vnr : vnr (rt0 S a (-1) 0) n = vnr S n := by unfold vnr; simp only [N, e29]
  have sN : ∀ nv x cc, s2N (rt0 S a (-1) 0) nv x np cc = s2N S nv x np cc := fun nv x cc => by simp only [s2N, s1N, e3, e4, e6, e7, e8, e17, e20, e24, e26]
  have cN : ∀ nv x cc, costN (rt0 S a (-1) 0) nv x np cc = costN S nv x np cc := fun nv x cc => by
    show (if s2N (rt0 S a (-1) 0) nv x np cc ≤ 1048576 then s2N (rt0 S a (-1) 0) nv x np cc else 1048576) = _
    rw [sN]
  have kN : ∀ x, kv (rt0 S a (-1) 0) x = kv S x := fun x => by funext b; simp only [kv, N, e31]
  have tN : ∀ x cc z i, tabN (rt0 S a (-1) 0) x np cc z i = tabN S x np cc z i := fun x cc z i => by simp only [tabN, cN, e3, e22]
  have a8 : a < 8 := by omega
  have y1 : ∀ x, vhd (rt0 S a (-1) 0) n x ↔ vhd S n x ∨ x = a := fun x => by
    unfold vhd; rw [e13]; by_cases q : x = a
    · rw [if_pos q, q]; exact ⟨fun _ => Or.inr rfl, fun _ => ⟨ha, by decide⟩⟩
    · rw [if_neg q]; exact ⟨Or.inl, fun z => z.resolve_right q⟩
  have y2 : ∀ x y, vms (rt0 S a (-1) 0) n x y ↔ (if x = a then y = a else vms S n x y) := fun x y => by
    unfold vms; rw [e18]; by_cases q : x = a
    · rw [if_pos q, if_pos q, q]
      constructor
      · intro z; exact ((cI_in a8 z.2.1).mp z.2.2).resolve_left (cI_0 z.2.1)
      · intro z; exact ⟨ha, by omega, (cI_in a8 (by omega)).mpr (Or.inr z)⟩
    · rw [if_neg q, if_neg q]
  have D' := DI_root D hn hna hr ha y1 y2 (hh' := fun x => x = a) (fun x => Iff.rfl)
  have E' := RI_root D E y1
  have na : ∀ x c, vch S n x c → c ≠ a := fun x c q e => hna (by rw [← e]; exact D.1.2.1 _ (D.1.2.2.2.2.1 _ _ q).2.1)
  have pma : pm (rt0 S a (-1) 0) a = 1 := by
    show pcN ((rt0 S a (-1) 0) 18 a) 8 = _
    rw [e18, if_pos rfl, pcN_in a8 (cI_0 a8) 8 (Nat.le_refl _), if_pos a8]
    have : pcN 0 8 = 0 := by decide
    rw [this]
  have pmx : ∀ x, x ≠ a → pm (rt0 S a (-1) 0) x = pm S x := fun x q => by
    show pcN ((rt0 S a (-1) 0) 18 x) 8 = _
    rw [e18, if_neg q]
  have t0 : vtr S n a = 0 := Nat.eq_zero_of_not_pos (fun q => hna (D.1.2.1 _ (E.1.1 _ q)))
  have q0 : vtq S n a = 0 := by have := E.1.2.2.1 a; omega
  refine ⟨?_, ?_, ⟨?_, ?_⟩, ⟨?_, ?_⟩, ?_, ?_⟩
  · unfold vDI; rw [x_vsp, x_vrt, x_vnb, x_vch, x_vwt, x_vth, x_vse, x_vpa, x_van]; exact D'
  · unfold vRI; rw [x_vsp, x_vrt, x_vch, x_vth, x_vR, x_vtr, x_vtq, x_vst, x_vnr, x_vpa]; exact E'
  · intro x q
    by_cases hx : x = a
    · rw [hx, pma, upd_at]; show _ + 1 + sumB _ (N (rt0 S a (-1) 0) 21 a) ≤ _; simp only [N, e21]; rw [show (S 21 a).toNatClampNeg = 0 from hcc]; exact Nat.le_refl _
    · have q1 : vhd S n x := ((y1 x).mp q).resolve_right hx
      have q2 := NIh.1 x q1
      rw [pmx x hx, upd_ne hx]
      refine Nat.le_trans (Nat.le_of_eq ?_) q2
      refine congrArg (dd x + 1 + ·) ?_
      show sumB _ (N (rt0 S a (-1) 0) 21 x) = sumB _ (N S 21 x)
      simp only [N, e21, e20]
      refine sumB_c _ (fun j hj => ?_)
      obtain ⟨c, hc, hc2⟩ := CH x j q1.1 hj
      have hc3 : (S 20 (8 * x + j)).toNatClampNeg = c := N_nI hc2 (by omega)
      have : c ≠ a := na x c ⟨q1.1, by omega, j, hj, hc2⟩
      rw [hc3]
      show pm (rt0 S a (-1) 0) c - upn dd a 0 c = pm S c - dd c
      rw [pmx c this, upd_ne this]
  · intro x b q1 q2
    rw [x_vwt] at q1
    have hb : b ≠ a := fun e => by
      have q3 := D'.1.2.2.2.2.2.2.1 x b q1 q2
      rw [e] at q3
      exact hna (D.1.2.2.2.2.2.2.2 _ _ q3).1
    have hx : x ≠ a := fun e => hna (e ▸ (D.1.2.2.2.2.2.1 x b q1).1)
    rw [upd_ne hb, pmx x hx]; exact NIh.2 x b q1 (((y1 b).mp q2).resolve_right hb)
  · intro x q; rw [x_vtr] at q
    have hx : x ≠ a := fun e => by rw [e] at q; omega
    have z := TIh.1 x q
    simp only [wd, bnd, N, e3, e22, e24, e25, e26, e21] at z ⊢
    refine ⟨z.1, z.2.1, z.2.2.1, fun i hi => ?_⟩
    have z4 := z.2.2.2 i hi
    refine ⟨?_, ?_⟩
    · rw [z4.1, tN]
    · show _ → _ ≤ 12987 * (pm (rt0 S a (-1) 0) x - _)
      rw [pmx x hx, upd_ne hx]; exact z4.2
  · intro b q; rw [x_vtq] at q
    have hb : b ≠ a := fun e => by rw [e] at q; omega
    have z := TIh.2 b q
    rw [x_vtq, x_vtr]
    simp only [wd, bnd, N, e3, e22, e24, e25, e26] at z ⊢
    refine ⟨z.1, z.2.1, fun i hi => ?_, z.2.2.2⟩
    show _ → _ ≤ 12987 * (pm (rt0 S a (-1) 0) b - _)
    rw [pmx b hb, upd_ne hb]; exact z.2.2.1 i hi
  · have : KI (rt0 S a (-1) 0) n np A = KI S n np A := by simp only [KI, rowK, N, kN, cN, x_vst, x_vR, x_vpa, e3, e21, e30, e31]
    rw [this]; exact KIh
  · have : PI (rt0 S a (-1) 0) n = PI S n := by simp only [PI, x_vrt, x_vnb, x_vsp, e10, e11]
    rw [this]; exact PIh
theorem IS_wait {a b : Nat} (hI : IS S n np A dd hh) (h8 : n ≤ 8) (hn : ∀ x, hh x → x = a) (ha : hh a) (hb1 : vnb S n a b) (hb2 : ¬ vms S n a b) :
    IS (mu S 19 a (nI b)) n np A dd (fun _ => False) := by
  obtain ⟨D, E, NIh, TIh, KIh, PIh⟩ := hI
  have e3 : (mu S 19 a (nI b)) 3 = S 3 := by funext i; simp [mu]
  have e4 : (mu S 19 a (nI b)) 4 = S 4 := by funext i; simp [mu]
  have e6 : (mu S 19 a (nI b)) 6 = S 6 := by funext i; simp [mu]
  have e7 : (mu S 19 a (nI b)) 7 = S 7 := by funext i; simp [mu]
  have e8 : (mu S 19 a (nI b)) 8 = S 8 := by funext i; simp [mu]
  have e9 : (mu S 19 a (nI b)) 9 = S 9 := by funext i; simp [mu]
  have e10 : (mu S 19 a (nI b)) 10 = S 10 := by funext i; simp [mu]
  have e11 : (mu S 19 a (nI b)) 11 = S 11 := by funext i; simp [mu]
  have e12 : (mu S 19 a (nI b)) 12 = S 12 := by funext i; simp [mu]
  have e13 : (mu S 19 a (nI b)) 13 = S 13 := by funext i; simp [mu]
  have e14 : (mu S 19 a (nI b)) 14 = S 14 := by funext i; simp [mu]
  have e16 : (mu S 19 a (nI b)) 16 = S 16 := by funext i; simp [mu]
  have e17 : (mu S 19 a (nI b)) 17 = S 17 := by funext i; simp [mu]
  have e18 : (mu S 19 a (nI b)) 18 = S 18 := by funext i; simp [mu]
  have e20 : (mu S 19 a (nI b)) 20 = S 20 := by funext i; simp [mu]
  have e21 : (mu S 19 a (nI b)) 21 = S 21 := by funext i; simp [mu]
  have e22 : (mu S 19 a (nI b)) 22 = S 22 := by funext i; simp [mu]
  have e23 : (mu S 19 a (nI b)) 23 = S 23 := by funext i; simp [mu]
  have e24 : (mu S 19 a (nI b)) 24 = S 24 := by funext i; simp [mu]
  have e25 : (mu S 19 a (nI b)) 25 = S 25 := by funext i; simp [mu]
  have e26 : (mu S 19 a (nI b)) 26 = S 26 := by funext i; simp [mu]
  have e28 : (mu S 19 a (nI b)) 28 = S 28 := by funext i; simp [mu]
  have e29 : (mu S 19 a (nI b)) 29 = S 29 := by funext i; simp [mu]
  have e30 : (mu S 19 a (nI b)) 30 = S 30 := by funext i; simp [mu]
  have e31 : (mu S 19 a (nI b)) 31 = S 31 := by funext i; simp [mu]
  have x_vsp : vsp (mu S 19 a (nI b)) = vsp S := by unfold vsp; simp only [N, e10]
  have x_vrt : vrt (mu S 19 a (nI b)) n = vrt S n := by unfold vrt; simp only [N, e10, e11]
  have x_vnb : vnb (mu S 19 a (nI b)) n = vnb S n := by unfold vnb; simp only [N, e9]
  have x_vms : vms (mu S 19 a (nI b)) n = vms S n := by unfold vms; simp only [N, e18]
  have x_vch : vch (mu S 19 a (nI b)) n = vch S n := by unfold vch; simp only [N, e20, e21]
  have x_vpa : vpa (mu S 19 a (nI b)) n = vpa S n := by unfold vpa; simp only [N, e16]
  have x_vhd : vhd (mu S 19 a (nI b)) n = vhd S n := by unfold vhd; simp only [N, e13]
  have x_vth : vth (mu S 19 a (nI b)) n = vth S n := by unfold vth; simp only [N, e14]
  have x_van : van (mu S 19 a (nI b)) n = van S n := by unfold van; simp only [N, e17]
  have x_vse : vse (mu S 19 a (nI b)) n = vse S n := by unfold vse; simp only [N, e22]
  have x_vR : vR (mu S 19 a (nI b)) = vR S := by unfold vR; simp only [N, e10, e12]
  have x_vtr : vtr (mu S 19 a (nI b)) n = vtr S n := by unfold vtr; simp only [N, e23]
  have x_vtq : vtq (mu S 19 a (nI b)) n = vtq S n := by unfold vtq; simp only [N, e23]
  have x_vst : vst (mu S 19 a (nI b)) n = vst S n := by unfold vst; simp only [N, e28]
  have x_vnr : vnr (mu S 19 a (nI b)) n = vnr S n := by unfold vnr; simp only [N, e29]
  have sN : ∀ nv x cc, s2N (mu S 19 a (nI b)) nv x np cc = s2N S nv x np cc := fun nv x cc => by simp only [s2N, s1N, e3, e4, e6, e7, e8, e17, e20, e24, e26]
  have cN : ∀ nv x cc, costN (mu S 19 a (nI b)) nv x np cc = costN S nv x np cc := fun nv x cc => by
    show (if s2N (mu S 19 a (nI b)) nv x np cc ≤ 1048576 then s2N (mu S 19 a (nI b)) nv x np cc else 1048576) = _
    rw [sN]
  have kN : ∀ x, kv (mu S 19 a (nI b)) x = kv S x := fun x => by funext b; simp only [kv, N, e31]
  have tN : ∀ x cc z i, tabN (mu S 19 a (nI b)) x np cc z i = tabN S x np cc z i := fun x cc z i => by simp only [tabN, cN, e3, e22]
  have TIe : TI (mu S 19 a (nI b)) n np dd = TI S n np dd := by simp only [TI, N, pm, wd, bnd, unN, tN, x_vtr, x_vtq, e3, e18, e20, e21, e22, e24, e25, e26]
  have KIe : KI (mu S 19 a (nI b)) n np A = KI S n np A := by simp only [KI, rowK, N, kN, cN, x_vst, x_vR, x_vpa, e3, e21, e30, e31]
  have PIe : PI (mu S 19 a (nI b)) n = PI S n := by simp only [PI, x_vrt, x_vnb, x_vsp, e10, e11]
  have k1 := D.2.2.1.2.2.2.2.1 a ha
  have han := D.1.1 a k1.1
  have e19 : ∀ x, (mu S 19 a (nI b)) 19 x = if x = a then nI b else S 19 x := fun x => by simp [mu]
  have y1 : ∀ x y, vwt (mu S 19 a (nI b)) n x y ↔ if x = a then y = b else vwt S n x y := fun x y => by
    unfold vwt; rw [e19]; by_cases q : x = a
    · rw [if_pos q, if_pos q, q]
      constructor
      · intro z; exact (nI_inj (by have := hb1.2.1; omega) (by omega) z.2.2).symm
      · intro z; rw [z]; exact ⟨han, hb1.2.1, rfl⟩
    · rw [if_neg q, if_neg q]
  have D' := DI_wait D hn ha hb1 hb2 y1 (hh' := fun _ => False) (fun x q => q)
  refine ⟨?_, ?_, ⟨?_, ?_⟩, ?_, ?_, ?_⟩
  · unfold vDI; rw [x_vsp, x_vrt, x_vnb, x_vch, x_vms, x_vhd, x_vth, x_vse, x_vpa, x_van]; exact D'
  · unfold vRI; rw [x_vsp, x_vrt, x_vch, x_vth, x_vR, x_vtr, x_vtq, x_vst, x_vnr, x_vpa, x_vhd]; exact E
  · have := NIh.1
    rw [x_vhd]
    simp only [csm, pm, N, e18, e20, e21] at this ⊢
    exact this
  · intro x c q1 q2
    have q3 := D'.1.2.2.2.2.2.2.1 x c q1 (by rw [x_vhd] at q2; exact q2)
    rw [x_vhd] at q2
    simp only [pm, e18]
    by_cases hx : x = a
    · rw [y1, if_pos hx] at q1
      rw [q1] at q2
      exact absurd (D.2.2.2.2.1 a b ha q2 (by have := D.2.2.1.2.2.2.1 a b hb1; exact D.2.2.1.2.2.2.2.2.2.2.2.1 _ _ this.2.1)) hb2
    · rw [y1, if_neg hx] at q1; exact NIh.2 x c q1 q2
  · rw [TIe]; exact TIh
  · rw [KIe]; exact KIh
  · rw [PIe]; exact PIh
theorem IS_thr {a : Nat} {y : Int32} (hI : IS S n np A dd hh) (h8 : n ≤ 8) (hn : ∀ x, hh x → x = a) (ha : hh a) (h19 : S 19 a = -1) (hb : ∀ c, vnb S n a c → vms S n a c) (hy : ∀ c, c < 8 → (cI y (nI c) ↔ (van S n a c ∨ ∃ x, vch S n a x ∧ vse S n x c) ∧ c ≠ a)) :
    IS (mu (mu (mu S 19 a (-1)) 14 a 1) 22 a y) n np A dd (fun _ => False) := by
  obtain ⟨D, E, NIh, TIh, KIh, PIh⟩ := hI
  have e3 : (mu (mu (mu S 19 a (-1)) 14 a 1) 22 a y) 3 = S 3 := by funext i; simp [mu]
  have e4 : (mu (mu (mu S 19 a (-1)) 14 a 1) 22 a y) 4 = S 4 := by funext i; simp [mu]
  have e6 : (mu (mu (mu S 19 a (-1)) 14 a 1) 22 a y) 6 = S 6 := by funext i; simp [mu]
  have e7 : (mu (mu (mu S 19 a (-1)) 14 a 1) 22 a y) 7 = S 7 := by funext i; simp [mu]
  have e8 : (mu (mu (mu S 19 a (-1)) 14 a 1) 22 a y) 8 = S 8 := by funext i; simp [mu]
  have e9 : (mu (mu (mu S 19 a (-1)) 14 a 1) 22 a y) 9 = S 9 := by funext i; simp [mu]
  have e10 : (mu (mu (mu S 19 a (-1)) 14 a 1) 22 a y) 10 = S 10 := by funext i; simp [mu]
  have e11 : (mu (mu (mu S 19 a (-1)) 14 a 1) 22 a y) 11 = S 11 := by funext i; simp [mu]
  have e12 : (mu (mu (mu S 19 a (-1)) 14 a 1) 22 a y) 12 = S 12 := by funext i; simp [mu]
  have e13 : (mu (mu (mu S 19 a (-1)) 14 a 1) 22 a y) 13 = S 13 := by funext i; simp [mu]
  have e16 : (mu (mu (mu S 19 a (-1)) 14 a 1) 22 a y) 16 = S 16 := by funext i; simp [mu]
  have e17 : (mu (mu (mu S 19 a (-1)) 14 a 1) 22 a y) 17 = S 17 := by funext i; simp [mu]
  have e18 : (mu (mu (mu S 19 a (-1)) 14 a 1) 22 a y) 18 = S 18 := by funext i; simp [mu]
  have e20 : (mu (mu (mu S 19 a (-1)) 14 a 1) 22 a y) 20 = S 20 := by funext i; simp [mu]
  have e21 : (mu (mu (mu S 19 a (-1)) 14 a 1) 22 a y) 21 = S 21 := by funext i; simp [mu]
  have e23 : (mu (mu (mu S 19 a (-1)) 14 a 1) 22 a y) 23 = S 23 := by funext i; simp [mu]
  have e24 : (mu (mu (mu S 19 a (-1)) 14 a 1) 22 a y) 24 = S 24 := by funext i; simp [mu]
  have e25 : (mu (mu (mu S 19 a (-1)) 14 a 1) 22 a y) 25 = S 25 := by funext i; simp [mu]
  have e26 : (mu (mu (mu S 19 a (-1)) 14 a 1) 22 a y) 26 = S 26 := by funext i; simp [mu]
  have e28 : (mu (mu (mu S 19 a (-1)) 14 a 1) 22 a y) 28 = S 28 := by funext i; simp [mu]
  have e29 : (mu (mu (mu S 19 a (-1)) 14 a 1) 22 a y) 29 = S 29 := by funext i; simp [mu]
  have e30 : (mu (mu (mu S 19 a (-1)) 14 a 1) 22 a y) 30 = S 30 := by funext i; simp [mu]
  have e31 : (mu (mu (mu S 19 a (-1)) 14 a 1) 22 a y) 31 = S 31 := by funext i; simp [mu]
  have e19 : (mu (mu (mu S 19 a (-1)) 14 a 1) 22 a y) 19 = S 19 := by
    funext x; by_cases q : x = a
    · rw [q, h19]; simp [mu]
    · simp [mu, q]
  have x_vsp : vsp (mu (mu (mu S 19 a (-1)) 14 a 1) 22 a y) = vsp S := by unfold vsp; simp only [N, e10]
  have x_vrt : vrt (mu (mu (mu S 19 a (-1)) 14 a 1) 22 a y) n = vrt S n := by unfold vrt; simp only [N, e10, e11]
  have x_vnb : vnb (mu (mu (mu S 19 a (-1)) 14 a 1) 22 a y) n = vnb S n := by unfold vnb; simp only [N, e9]
  have x_vms : vms (mu (mu (mu S 19 a (-1)) 14 a 1) 22 a y) n = vms S n := by unfold vms; simp only [N, e18]
  have x_vch : vch (mu (mu (mu S 19 a (-1)) 14 a 1) 22 a y) n = vch S n := by unfold vch; simp only [N, e20, e21]
  have x_vwt : vwt (mu (mu (mu S 19 a (-1)) 14 a 1) 22 a y) n = vwt S n := by unfold vwt; simp only [N, e19]
  have x_vpa : vpa (mu (mu (mu S 19 a (-1)) 14 a 1) 22 a y) n = vpa S n := by unfold vpa; simp only [N, e16]
  have x_vhd : vhd (mu (mu (mu S 19 a (-1)) 14 a 1) 22 a y) n = vhd S n := by unfold vhd; simp only [N, e13]
  have x_van : van (mu (mu (mu S 19 a (-1)) 14 a 1) 22 a y) n = van S n := by unfold van; simp only [N, e17]
  have x_vR : vR (mu (mu (mu S 19 a (-1)) 14 a 1) 22 a y) = vR S := by unfold vR; simp only [N, e10, e12]
  have x_vtr : vtr (mu (mu (mu S 19 a (-1)) 14 a 1) 22 a y) n = vtr S n := by unfold vtr; simp only [N, e23]
  have x_vtq : vtq (mu (mu (mu S 19 a (-1)) 14 a 1) 22 a y) n = vtq S n := by unfold vtq; simp only [N, e23]
  have x_vst : vst (mu (mu (mu S 19 a (-1)) 14 a 1) 22 a y) n = vst S n := by unfold vst; simp only [N, e28]
  have x_vnr : vnr (mu (mu (mu S 19 a (-1)) 14 a 1) 22 a y) n = vnr S n := by unfold vnr; simp only [N, e29]
  have sN : ∀ nv x cc, s2N (mu (mu (mu S 19 a (-1)) 14 a 1) 22 a y) nv x np cc = s2N S nv x np cc := fun nv x cc => by simp only [s2N, s1N, e3, e4, e6, e7, e8, e17, e20, e24, e26]
  have cN : ∀ nv x cc, costN (mu (mu (mu S 19 a (-1)) 14 a 1) 22 a y) nv x np cc = costN S nv x np cc := fun nv x cc => by
    show (if s2N (mu (mu (mu S 19 a (-1)) 14 a 1) 22 a y) nv x np cc ≤ 1048576 then s2N (mu (mu (mu S 19 a (-1)) 14 a 1) 22 a y) nv x np cc else 1048576) = _
    rw [sN]
  have kN : ∀ x, kv (mu (mu (mu S 19 a (-1)) 14 a 1) 22 a y) x = kv S x := fun x => by funext b; simp only [kv, N, e31]
  have KIe : KI (mu (mu (mu S 19 a (-1)) 14 a 1) 22 a y) n np A = KI S n np A := by simp only [KI, rowK, N, kN, cN, x_vst, x_vR, x_vpa, e3, e21, e30, e31]
  have PIe : PI (mu (mu (mu S 19 a (-1)) 14 a 1) 22 a y) n = PI S n := by simp only [PI, x_vrt, x_vnb, x_vsp, e10, e11]
  have k1 := D.2.2.1.2.2.2.2.1 a ha
  have han := D.1.1 a k1.1
  have e14 : ∀ x, (mu (mu (mu S 19 a (-1)) 14 a 1) 22 a y) 14 x = if x = a then 1 else S 14 x := fun x => by simp [mu]
  have e22 : ∀ x, (mu (mu (mu S 19 a (-1)) 14 a 1) 22 a y) 22 x = if x = a then y else S 22 x := fun x => by simp [mu]
  have y1 : ∀ x, vth (mu (mu (mu S 19 a (-1)) 14 a 1) 22 a y) n x ↔ vth S n x ∨ x = a := fun x => by
    unfold vth; rw [e14]; by_cases q : x = a
    · rw [if_pos q, q]; exact ⟨fun _ => Or.inr rfl, fun _ => ⟨han, by decide⟩⟩
    · rw [if_neg q]; exact ⟨Or.inl, fun z => z.resolve_right q⟩
  have y3 : ∀ x c, vse (mu (mu (mu S 19 a (-1)) 14 a 1) 22 a y) n x c ↔ if x = a then (van S n a c ∨ ∃ d, vch S n a d ∧ vse S n d c) ∧ c ≠ a else vse S n x c := fun x c => by
    show (x < n ∧ c < 8 ∧ cI ((mu (mu (mu S 19 a (-1)) 14 a 1) 22 a y) 22 x) (nI c)) ↔ _
    rw [e22]; by_cases q : x = a
    · rw [if_pos q, if_pos q, q]
      constructor
      · intro z; exact (hy c z.2.1).mp z.2.2
      · intro z
        have hc : c < 8 := by
          rcases z.1 with z1 | ⟨d, -, z1⟩
          · exact z1.2.1
          · exact z1.2.1
        exact ⟨han, hc, (hy c hc).mpr z⟩
    · rw [if_neg q, if_neg q]; exact Iff.rfl
  have D' := DI_thr D hn ha hb y1 (hh' := fun _ => False) (fun x q => q) y3
  have E' := RI_thr D E y1
  have t0 : vtr S n a = 0 := Nat.eq_zero_of_not_pos (fun q => k1.2 (E.1.1 _ q))
  have q0 : vtq S n a = 0 := by have := E.1.2.2.1 a; omega
  refine ⟨?_, ?_, ⟨?_, ?_⟩, ⟨?_, ?_⟩, ?_, ?_⟩
  · unfold vDI; rw [x_vsp, x_vrt, x_vnb, x_vch, x_vms, x_vhd, x_vwt, x_vpa, x_van]; exact D'
  · unfold vRI; rw [x_vsp, x_vrt, x_vch, x_vR, x_vtr, x_vtq, x_vst, x_vnr, x_vpa, x_vhd]; exact E'
  · have := NIh.1
    rw [x_vhd]
    simp only [csm, pm, N, e18, e20, e21] at this ⊢
    exact this
  · have := NIh.2
    rw [x_vhd, x_vwt]
    simp only [pm, e18] at this ⊢
    exact this
  · intro x q; rw [x_vtr] at q
    have hx : x ≠ a := fun e => by rw [e] at q; omega
    have z := TIh.1 x q
    simp only [tabN, wd, bnd, N, cN, pm, e3, e18, e22, if_neg hx, e24, e25, e26, e21] at z ⊢
    exact z
  · intro x q; rw [x_vtq] at q
    have hx : x ≠ a := fun e => by rw [e] at q; omega
    have z := TIh.2 x q
    rw [x_vtq, x_vtr]
    simp only [wd, bnd, N, pm, e3, e18, e22, if_neg hx, e24, e25, e26] at z ⊢
    exact z
  · rw [KIe]; exact KIh
  · rw [PIe]; exact PIh
theorem IS_back {a b : Nat} (hI : IS S n np A dd hh) (h8 : n ≤ 8) (hn : ∀ x, ¬ hh x) (hw : vwt S n a b) (hb : vth S n b) (h7 : ∀ x, x < n → N S 21 x ≤ 7)
    (CH : ∀ a k, a < n → k < N S 21 a → ∃ c, c < n ∧ S 20 (8 * a + k) = nI c) :
    IS (mu (mu (mu (mu S 18 a (S 18 b)) 20 (8 * a + N S 21 a) (nI b)) 21 a (nI (N S 21 a + 1))) 19 a (-1)) n np A dd (fun x => x = a) := by
  obtain ⟨D, E, NIh, TIh, KIh, PIh⟩ := hI
  have e3 : (mu (mu (mu (mu S 18 a (S 18 b)) 20 (8 * a + N S 21 a) (nI b)) 21 a (nI (N S 21 a + 1))) 19 a (-1)) 3 = S 3 := by funext i; simp [mu]
  have e4 : (mu (mu (mu (mu S 18 a (S 18 b)) 20 (8 * a + N S 21 a) (nI b)) 21 a (nI (N S 21 a + 1))) 19 a (-1)) 4 = S 4 := by funext i; simp [mu]
  have e6 : (mu (mu (mu (mu S 18 a (S 18 b)) 20 (8 * a + N S 21 a) (nI b)) 21 a (nI (N S 21 a + 1))) 19 a (-1)) 6 = S 6 := by funext i; simp [mu]
  have e7 : (mu (mu (mu (mu S 18 a (S 18 b)) 20 (8 * a + N S 21 a) (nI b)) 21 a (nI (N S 21 a + 1))) 19 a (-1)) 7 = S 7 := by funext i; simp [mu]
  have e8 : (mu (mu (mu (mu S 18 a (S 18 b)) 20 (8 * a + N S 21 a) (nI b)) 21 a (nI (N S 21 a + 1))) 19 a (-1)) 8 = S 8 := by funext i; simp [mu]
  have e9 : (mu (mu (mu (mu S 18 a (S 18 b)) 20 (8 * a + N S 21 a) (nI b)) 21 a (nI (N S 21 a + 1))) 19 a (-1)) 9 = S 9 := by funext i; simp [mu]
  have e10 : (mu (mu (mu (mu S 18 a (S 18 b)) 20 (8 * a + N S 21 a) (nI b)) 21 a (nI (N S 21 a + 1))) 19 a (-1)) 10 = S 10 := by funext i; simp [mu]
  have e11 : (mu (mu (mu (mu S 18 a (S 18 b)) 20 (8 * a + N S 21 a) (nI b)) 21 a (nI (N S 21 a + 1))) 19 a (-1)) 11 = S 11 := by funext i; simp [mu]
  have e12 : (mu (mu (mu (mu S 18 a (S 18 b)) 20 (8 * a + N S 21 a) (nI b)) 21 a (nI (N S 21 a + 1))) 19 a (-1)) 12 = S 12 := by funext i; simp [mu]
  have e13 : (mu (mu (mu (mu S 18 a (S 18 b)) 20 (8 * a + N S 21 a) (nI b)) 21 a (nI (N S 21 a + 1))) 19 a (-1)) 13 = S 13 := by funext i; simp [mu]
  have e14 : (mu (mu (mu (mu S 18 a (S 18 b)) 20 (8 * a + N S 21 a) (nI b)) 21 a (nI (N S 21 a + 1))) 19 a (-1)) 14 = S 14 := by funext i; simp [mu]
  have e16 : (mu (mu (mu (mu S 18 a (S 18 b)) 20 (8 * a + N S 21 a) (nI b)) 21 a (nI (N S 21 a + 1))) 19 a (-1)) 16 = S 16 := by funext i; simp [mu]
  have e17 : (mu (mu (mu (mu S 18 a (S 18 b)) 20 (8 * a + N S 21 a) (nI b)) 21 a (nI (N S 21 a + 1))) 19 a (-1)) 17 = S 17 := by funext i; simp [mu]
  have e22 : (mu (mu (mu (mu S 18 a (S 18 b)) 20 (8 * a + N S 21 a) (nI b)) 21 a (nI (N S 21 a + 1))) 19 a (-1)) 22 = S 22 := by funext i; simp [mu]
  have e23 : (mu (mu (mu (mu S 18 a (S 18 b)) 20 (8 * a + N S 21 a) (nI b)) 21 a (nI (N S 21 a + 1))) 19 a (-1)) 23 = S 23 := by funext i; simp [mu]
  have e24 : (mu (mu (mu (mu S 18 a (S 18 b)) 20 (8 * a + N S 21 a) (nI b)) 21 a (nI (N S 21 a + 1))) 19 a (-1)) 24 = S 24 := by funext i; simp [mu]
  have e25 : (mu (mu (mu (mu S 18 a (S 18 b)) 20 (8 * a + N S 21 a) (nI b)) 21 a (nI (N S 21 a + 1))) 19 a (-1)) 25 = S 25 := by funext i; simp [mu]
  have e26 : (mu (mu (mu (mu S 18 a (S 18 b)) 20 (8 * a + N S 21 a) (nI b)) 21 a (nI (N S 21 a + 1))) 19 a (-1)) 26 = S 26 := by funext i; simp [mu]
  have e28 : (mu (mu (mu (mu S 18 a (S 18 b)) 20 (8 * a + N S 21 a) (nI b)) 21 a (nI (N S 21 a + 1))) 19 a (-1)) 28 = S 28 := by funext i; simp [mu]
  have e29 : (mu (mu (mu (mu S 18 a (S 18 b)) 20 (8 * a + N S 21 a) (nI b)) 21 a (nI (N S 21 a + 1))) 19 a (-1)) 29 = S 29 := by funext i; simp [mu]
  have e30 : (mu (mu (mu (mu S 18 a (S 18 b)) 20 (8 * a + N S 21 a) (nI b)) 21 a (nI (N S 21 a + 1))) 19 a (-1)) 30 = S 30 := by funext i; simp [mu]
  have e31 : (mu (mu (mu (mu S 18 a (S 18 b)) 20 (8 * a + N S 21 a) (nI b)) 21 a (nI (N S 21 a + 1))) 19 a (-1)) 31 = S 31 := by funext i; simp [mu]
  have x_vsp : vsp (mu (mu (mu (mu S 18 a (S 18 b)) 20 (8 * a + N S 21 a) (nI b)) 21 a (nI (N S 21 a + 1))) 19 a (-1)) = vsp S := by unfold vsp; simp only [N, e10]
  have x_vrt : vrt (mu (mu (mu (mu S 18 a (S 18 b)) 20 (8 * a + N S 21 a) (nI b)) 21 a (nI (N S 21 a + 1))) 19 a (-1)) n = vrt S n := by unfold vrt; simp only [N, e10, e11]
  have x_vnb : vnb (mu (mu (mu (mu S 18 a (S 18 b)) 20 (8 * a + N S 21 a) (nI b)) 21 a (nI (N S 21 a + 1))) 19 a (-1)) n = vnb S n := by unfold vnb; simp only [N, e9]
  have x_vpa : vpa (mu (mu (mu (mu S 18 a (S 18 b)) 20 (8 * a + N S 21 a) (nI b)) 21 a (nI (N S 21 a + 1))) 19 a (-1)) n = vpa S n := by unfold vpa; simp only [N, e16]
  have x_vhd : vhd (mu (mu (mu (mu S 18 a (S 18 b)) 20 (8 * a + N S 21 a) (nI b)) 21 a (nI (N S 21 a + 1))) 19 a (-1)) n = vhd S n := by unfold vhd; simp only [N, e13]
  have x_vth : vth (mu (mu (mu (mu S 18 a (S 18 b)) 20 (8 * a + N S 21 a) (nI b)) 21 a (nI (N S 21 a + 1))) 19 a (-1)) n = vth S n := by unfold vth; simp only [N, e14]
  have x_van : van (mu (mu (mu (mu S 18 a (S 18 b)) 20 (8 * a + N S 21 a) (nI b)) 21 a (nI (N S 21 a + 1))) 19 a (-1)) n = van S n := by unfold van; simp only [N, e17]
  have x_vse : vse (mu (mu (mu (mu S 18 a (S 18 b)) 20 (8 * a + N S 21 a) (nI b)) 21 a (nI (N S 21 a + 1))) 19 a (-1)) n = vse S n := by unfold vse; simp only [N, e22]
  have x_vR : vR (mu (mu (mu (mu S 18 a (S 18 b)) 20 (8 * a + N S 21 a) (nI b)) 21 a (nI (N S 21 a + 1))) 19 a (-1)) = vR S := by unfold vR; simp only [N, e10, e12]
  have x_vtr : vtr (mu (mu (mu (mu S 18 a (S 18 b)) 20 (8 * a + N S 21 a) (nI b)) 21 a (nI (N S 21 a + 1))) 19 a (-1)) n = vtr S n := by unfold vtr; simp only [N, e23]
  have x_vtq : vtq (mu (mu (mu (mu S 18 a (S 18 b)) 20 (8 * a + N S 21 a) (nI b)) 21 a (nI (N S 21 a + 1))) 19 a (-1)) n = vtq S n := by unfold vtq; simp only [N, e23]
  have x_vst : vst (mu (mu (mu (mu S 18 a (S 18 b)) 20 (8 * a + N S 21 a) (nI b)) 21 a (nI (N S 21 a + 1))) 19 a (-1)) n = vst S n := by unfold vst; simp only [N, e28]
  have x_vnr : vnr (mu (mu (mu (mu S 18 a (S 18 b)) 20 (8 * a + N S 21 a) (nI b)) 21 a (nI (N S 21 a + 1))) 19 a (-1)) n = vnr S n := by unfold vnr; simp only [N, e29]
  have k1 := D.1.2.2.2.2.2.1 a b hw
  have han : a < n := hw.1
  have hbn : b < n := hb.1
  have hca := h7 a han
  have e18 : ∀ x, (mu (mu (mu (mu S 18 a (S 18 b)) 20 (8 * a + N S 21 a) (nI b)) 21 a (nI (N S 21 a + 1))) 19 a (-1)) 18 x = if x = a then S 18 b else S 18 x := fun x => by simp [mu]
  have e19 : ∀ x, (mu (mu (mu (mu S 18 a (S 18 b)) 20 (8 * a + N S 21 a) (nI b)) 21 a (nI (N S 21 a + 1))) 19 a (-1)) 19 x = if x = a then -1 else S 19 x := fun x => by simp [mu]
  have e20 : ∀ x, (mu (mu (mu (mu S 18 a (S 18 b)) 20 (8 * a + N S 21 a) (nI b)) 21 a (nI (N S 21 a + 1))) 19 a (-1)) 20 x = if x = 8 * a + N S 21 a then nI b else S 20 x := fun x => by simp [mu]
  have e21 : ∀ x, (mu (mu (mu (mu S 18 a (S 18 b)) 20 (8 * a + N S 21 a) (nI b)) 21 a (nI (N S 21 a + 1))) 19 a (-1)) 21 x = if x = a then nI (N S 21 a + 1) else S 21 x := fun x => by simp [mu]
  have n21 : ∀ x, N (mu (mu (mu (mu S 18 a (S 18 b)) 20 (8 * a + N S 21 a) (nI b)) 21 a (nI (N S 21 a + 1))) 19 a (-1)) 21 x = if x = a then N S 21 a + 1 else N S 21 x := fun x => by
    show ((mu (mu (mu (mu S 18 a (S 18 b)) 20 (8 * a + N S 21 a) (nI b)) 21 a (nI (N S 21 a + 1))) 19 a (-1)) 21 x).toNatClampNeg = _
    rw [e21]; by_cases q : x = a
    · rw [if_pos q, if_pos q, nI_clamp (by omega)]
    · rw [if_neg q, if_neg q]
  have y1 : ∀ x y, vms (mu (mu (mu (mu S 18 a (S 18 b)) 20 (8 * a + N S 21 a) (nI b)) 21 a (nI (N S 21 a + 1))) 19 a (-1)) n x y ↔ if x = a then vms S n b y else vms S n x y := fun x y => by
    unfold vms; rw [e18]; by_cases q : x = a
    · rw [if_pos q, if_pos q, q]
      exact ⟨fun z => ⟨hbn, z.2⟩, fun z => ⟨han, z.2⟩⟩
    · rw [if_neg q, if_neg q]
  have y2 : ∀ x y, vch (mu (mu (mu (mu S 18 a (S 18 b)) 20 (8 * a + N S 21 a) (nI b)) 21 a (nI (N S 21 a + 1))) 19 a (-1)) n x y ↔ vch S n x y ∨ (x = a ∧ y = b) := fun x y => by
    unfold vch; rw [n21]; by_cases q : x = a
    · rw [if_pos q, q]
      constructor
      · intro z
        obtain ⟨z1, z2, k, z3, z4⟩ := z
        rw [e20] at z4
        by_cases hk : k = N S 21 a
        · rw [hk, if_pos rfl] at z4
          exact Or.inr ⟨rfl, nI_inj (by omega) (by omega) z4.symm⟩
        · rw [if_neg (by omega)] at z4
          exact Or.inl ⟨z1, z2, k, by omega, z4⟩
      · intro z
        rcases z with ⟨z1, z2, k, z3, z4⟩ | ⟨-, z⟩
        · exact ⟨z1, z2, k, by omega, by rw [e20, if_neg (by omega)]; exact z4⟩
        · exact ⟨han, by omega, N S 21 a, by omega, by rw [e20, if_pos rfl, z]⟩
    · rw [if_neg q]
      constructor
      · intro z
        obtain ⟨z1, z2, k, z3, z4⟩ := z
        have := h7 x z1
        rw [e20, if_neg (by omega)] at z4
        exact Or.inl ⟨z1, z2, k, z3, z4⟩
      · intro z
        rcases z with ⟨z1, z2, k, z3, z4⟩ | ⟨z, -⟩
        · have := h7 x z1
          exact ⟨z1, z2, k, z3, by rw [e20, if_neg (by omega)]; exact z4⟩
        · exact absurd z q
  have y3 : ∀ x y, vwt (mu (mu (mu (mu S 18 a (S 18 b)) 20 (8 * a + N S 21 a) (nI b)) 21 a (nI (N S 21 a + 1))) 19 a (-1)) n x y ↔ vwt S n x y ∧ x ≠ a := fun x y => by
    unfold vwt; rw [e19]; by_cases q : x = a
    · rw [if_pos q]
      exact ⟨fun z => absurd z.2.2.symm (fun e => absurd (show nI y < 0 by rw [e]; decide) (nI_pos (by omega))), fun z => absurd q z.2⟩
    · rw [if_neg q]; exact ⟨fun z => ⟨z, q⟩, fun z => z.1⟩
  have D' := DI_back D hn hw hb y1 y2 y3 (hh' := fun x => x = a) (fun x => Iff.rfl)
  have E' := RI_back D E hw y2
  have hdb := D.1.2.1 b hb
  have ddb := NIh.2 a b hw hdb
  have hab : a ≠ b := fun e => k1.2.1 (e ▸ hb)
  have na : ∀ x c, vch S n x c → c ≠ a := fun x c q e => k1.2.1 (by rw [← e]; exact (D.1.2.2.2.2.1 _ _ q).2.1)
  have pma : pm (mu (mu (mu (mu S 18 a (S 18 b)) 20 (8 * a + N S 21 a) (nI b)) 21 a (nI (N S 21 a + 1))) 19 a (-1)) a = pm S b := by
    show pcN ((mu (mu (mu (mu S 18 a (S 18 b)) 20 (8 * a + N S 21 a) (nI b)) 21 a (nI (N S 21 a + 1))) 19 a (-1)) 18 a) 8 = _
    rw [e18, if_pos rfl]
  have pmx : ∀ x, x ≠ a → pm (mu (mu (mu (mu S 18 a (S 18 b)) 20 (8 * a + N S 21 a) (nI b)) 21 a (nI (N S 21 a + 1))) 19 a (-1)) x = pm S x := fun x q => by
    show pcN ((mu (mu (mu (mu S 18 a (S 18 b)) 20 (8 * a + N S 21 a) (nI b)) 21 a (nI (N S 21 a + 1))) 19 a (-1)) 18 x) 8 = _
    rw [e18, if_neg q]
  have t0 : vtr S n a = 0 := Nat.eq_zero_of_not_pos (fun q => k1.2.1 (E.1.1 _ q))
  have q0 : vtq S n a = 0 := by have := E.1.2.2.1 a; omega
  have s0 : vst S n a = 0 := Nat.eq_zero_of_not_pos (fun q => by have := (E.2.2.2.1 a).2 q; omega)
  have cN : ∀ nv x, x ≠ a → x < n → costN (mu (mu (mu (mu S 18 a (S 18 b)) 20 (8 * a + N S 21 a) (nI b)) 21 a (nI (N S 21 a + 1))) 19 a (-1)) nv x np (N S 21 x) = costN S nv x np (N S 21 x) := fun nv x hx hxn => by
    have : s2N (mu (mu (mu (mu S 18 a (S 18 b)) 20 (8 * a + N S 21 a) (nI b)) 21 a (nI (N S 21 a + 1))) 19 a (-1)) nv x np (N S 21 x) = s2N S nv x np (N S 21 x) := by
      simp only [s2N, s1N, e3, e4, e6, e7, e8, e17, e24, e26]
      refine s2_ch _ (fun j hj => ?_)
      have := h7 x hxn
      rw [e20, if_neg (by omega)]
    show (if s2N (mu (mu (mu (mu S 18 a (S 18 b)) 20 (8 * a + N S 21 a) (nI b)) 21 a (nI (N S 21 a + 1))) 19 a (-1)) nv x np _ ≤ 1048576 then s2N (mu (mu (mu (mu S 18 a (S 18 b)) 20 (8 * a + N S 21 a) (nI b)) 21 a (nI (N S 21 a + 1))) 19 a (-1)) nv x np _ else 1048576) = _
    rw [this]
  have cs : ∀ x, vhd S n x → sumB (fun k => pm (mu (mu (mu (mu S 18 a (S 18 b)) 20 (8 * a + N S 21 a) (nI b)) 21 a (nI (N S 21 a + 1))) 19 a (-1)) (N (mu (mu (mu (mu S 18 a (S 18 b)) 20 (8 * a + N S 21 a) (nI b)) 21 a (nI (N S 21 a + 1))) 19 a (-1)) 20 (8 * x + k)) - dd (N (mu (mu (mu (mu S 18 a (S 18 b)) 20 (8 * a + N S 21 a) (nI b)) 21 a (nI (N S 21 a + 1))) 19 a (-1)) 20 (8 * x + k))) (N S 21 x) = csm S dd x := fun x q1 => by
    refine sumB_c _ (fun j hj => ?_)
    obtain ⟨c, hc, hc2⟩ := CH x j q1.1 hj
    have hc3 : (S 20 (8 * x + j)).toNatClampNeg = c := N_nI hc2 (by omega)
    have : c ≠ a := na x c ⟨q1.1, by omega, j, hj, hc2⟩
    have h7x := h7 x q1.1
    have : (mu (mu (mu (mu S 18 a (S 18 b)) 20 (8 * a + N S 21 a) (nI b)) 21 a (nI (N S 21 a + 1))) 19 a (-1)) 20 (8 * x + j) = S 20 (8 * x + j) := by
      rw [e20, if_neg]
      intro e
      have : x = a := by omega
      rw [this] at hj e
      omega
    simp only [N]
    rw [this, hc3, pmx c (na x c ⟨q1.1, by omega, j, hj, hc2⟩)]
  refine ⟨?_, ?_, ⟨?_, ?_⟩, ⟨?_, ?_⟩, ?_, ?_⟩
  · unfold vDI; rw [x_vsp, x_vrt, x_vnb, x_vhd, x_vth, x_vse, x_vpa, x_van]; exact D'
  · unfold vRI; rw [x_vsp, x_vrt, x_vth, x_vR, x_vtr, x_vtq, x_vst, x_vnr, x_vpa, x_vhd]; exact E'
  · intro x q
    rw [x_vhd] at q
    have q2 := NIh.1 x q
    show dd x + 1 + sumB _ (N (mu (mu (mu (mu S 18 a (S 18 b)) 20 (8 * a + N S 21 a) (nI b)) 21 a (nI (N S 21 a + 1))) 19 a (-1)) 21 x) ≤ _
    rw [n21]
    by_cases hx : x = a
    · rw [if_pos hx, hx, pma, sumB]
      have c := cs a (hx ▸ q)
      rw [c]
      have e : (mu (mu (mu (mu S 18 a (S 18 b)) 20 (8 * a + N S 21 a) (nI b)) 21 a (nI (N S 21 a + 1))) 19 a (-1)) 20 (8 * a + N S 21 a) = nI b := by rw [e20, if_pos rfl]
      have e' : N (mu (mu (mu (mu S 18 a (S 18 b)) 20 (8 * a + N S 21 a) (nI b)) 21 a (nI (N S 21 a + 1))) 19 a (-1)) 20 (8 * a + N S 21 a) = b := N_nI e (by omega)
      rw [e', pmx b (Ne.symm hab), ddb]
      rw [hx] at q2
      have := NIh.1 b hdb
      rw [ddb] at this
      omega
    · rw [if_neg hx, pmx x hx, cs x q]; exact q2
  · intro x c q1 q2
    rw [x_vhd] at q2
    have q3 := (y3 x c).mp q1
    rw [pmx x q3.2]; exact NIh.2 x c q3.1 q2
  · intro x q; rw [x_vtr] at q
    have hx : x ≠ a := fun e => by rw [e] at q; omega
    have hxn : x < n := by
      rcases Nat.lt_or_ge x n with z | z
      · exact z
      · unfold vtr at q; rw [if_neg (by omega)] at q; omega
    have z := TIh.1 x q
    have n21x : N (mu (mu (mu (mu S 18 a (S 18 b)) 20 (8 * a + N S 21 a) (nI b)) 21 a (nI (N S 21 a + 1))) 19 a (-1)) 21 x = N S 21 x := by rw [n21, if_neg hx]
    rw [n21x]
    show _ ∧ _ ∧ _ ∧ ∀ i, _ → _ ∧ (_ → _ ≤ 12987 * (pm (mu (mu (mu (mu S 18 a (S 18 b)) 20 (8 * a + N S 21 a) (nI b)) 21 a (nI (N S 21 a + 1))) 19 a (-1)) x - _))
    rw [pmx x hx]
    have e : ∀ i, tabN (mu (mu (mu (mu S 18 a (S 18 b)) 20 (8 * a + N S 21 a) (nI b)) 21 a (nI (N S 21 a + 1))) 19 a (-1)) x np (N S 21 x) (N (mu (mu (mu (mu S 18 a (S 18 b)) 20 (8 * a + N S 21 a) (nI b)) 21 a (nI (N S 21 a + 1))) 19 a (-1)) 3 x) i = tabN S x np (N S 21 x) (N S 3 x) i := fun i => by
      simp only [tabN, N, e3, e22]
      exact congrArg (fun f => blR f _) (funext fun k => cN _ _ hx hxn)
    simp only [e]
    simp only [wd, N, e3, e22, e24, e25, e26] at z ⊢
    exact z
  · intro x q; rw [x_vtq] at q
    have hx : x ≠ a := fun e => by rw [e] at q; omega
    have z := TIh.2 x q
    rw [x_vtq, x_vtr]
    show _ ∧ _ ∧ (∀ i, _ → _ → _ ≤ 12987 * (pm (mu (mu (mu (mu S 18 a (S 18 b)) 20 (8 * a + N S 21 a) (nI b)) 21 a (nI (N S 21 a + 1))) 19 a (-1)) x - _)) ∧ _
    rw [pmx x hx]
    simp only [wd, N, e3, e22, e24, e25, e26] at z ⊢
    exact z
  · intro x hx
    have z := KIh x hx
    have kN : kv (mu (mu (mu (mu S 18 a (S 18 b)) 20 (8 * a + N S 21 a) (nI b)) 21 a (nI (N S 21 a + 1))) 19 a (-1)) x = kv S x := by funext b; simp only [kv, N, e31]
    rw [x_vst, x_vR, kN, x_vpa]
    simp only [rowK, N, e3, e30, e31] at z ⊢
    refine ⟨z.1, z.2.1, z.2.2.1, z.2.2.2.1, fun q => ?_⟩
    by_cases hxa : x = a
    · have := (E.1.2.2.2.2.1 a han).1
      rw [hxa] at q; omega
    · have n21x : N (mu (mu (mu (mu S 18 a (S 18 b)) 20 (8 * a + N S 21 a) (nI b)) 21 a (nI (N S 21 a + 1))) 19 a (-1)) 21 x = N S 21 x := by rw [n21, if_neg hxa]
      show costN _ _ _ _ (N (mu (mu (mu (mu S 18 a (S 18 b)) 20 (8 * a + N S 21 a) (nI b)) 21 a (nI (N S 21 a + 1))) 19 a (-1)) 21 x) < _
      rw [n21x, cN _ _ hxa hx]; exact z.2.2.2.2 q
  · have : PI (mu (mu (mu (mu S 18 a (S 18 b)) 20 (8 * a + N S 21 a) (nI b)) 21 a (nI (N S 21 a + 1))) 19 a (-1)) n = PI S n := by simp only [PI, x_vrt, x_vnb, x_vsp, e10, e11]
    rw [this]; exact PIh
end
