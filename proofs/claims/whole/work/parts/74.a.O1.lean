/-! SIMULATION O1. Laid by wip/whole/gen/p71.py -/
section
variable {S : mS} {n np : Nat} {A : Rl} {dd : Nat → Nat} {hh : Nat → Prop}
theorem upd_at {f : Nat → Nat} {a x : Nat} : upn f a x a = x := if_pos rfl
theorem upd_ne {f : Nat → Nat} {a x b : Nat} (h : b ≠ a) : upn f a x b = f b := if_neg h
theorem s1_an {o f g c an an' : Nat → Int32} {nv : Nat → Nat} {a : Nat} (h : an a = an' a) : ∀ k, s1R o f g c an nv a k = s1R o f g c an' nv a k
  | 0 => rfl
  | k + 1 => by rw [s1R, s1R, s1_an h k, h]
theorem sumB_c {f g : Nat → Nat} : ∀ k, (∀ j, j < k → f j = g j) → sumB f k = sumB g k
  | 0, _ => rfl
  | k + 1, h => by rw [sumB, sumB, sumB_c k (fun j hj => h j (by omega)), h k (by omega)]
theorem N_nI {x : Int32} {k : Nat} (h : x = nI k) (hk : k < 2 ^ 31) : x.toNatClampNeg = k := by rw [h, nI_clamp hk]
theorem IS_tok {a p : Nat} (hI : IS S n np A dd hh) (h8 : n ≤ 8) (hn : ∀ x, ¬ hh x) (ha : a < n) (hna : ¬ vhd S n a) (hw : vwt S n p a) (hcc : N S 21 a = 0) (CH : ∀ a k, a < n → k < N S 21 a → ∃ c, c < n ∧ S 20 (8 * a + k) = nI c) :
    IS (rt0 S a (nI p) (S 18 p)) n np (fun x y => if y = a then A x p ∨ x = p else A x y) (upn dd a (pm S p)) (fun x => x = a) := by
  obtain ⟨D, E, NIh, TIh, KIh, PIh⟩ := hI
  have e3 : (rt0 S a (nI p) (S 18 p)) 3 = S 3 := by funext i; simp [rt0, mu]
  have e4 : (rt0 S a (nI p) (S 18 p)) 4 = S 4 := by funext i; simp [rt0, mu]
  have e6 : (rt0 S a (nI p) (S 18 p)) 6 = S 6 := by funext i; simp [rt0, mu]
  have e7 : (rt0 S a (nI p) (S 18 p)) 7 = S 7 := by funext i; simp [rt0, mu]
  have e8 : (rt0 S a (nI p) (S 18 p)) 8 = S 8 := by funext i; simp [rt0, mu]
  have e9 : (rt0 S a (nI p) (S 18 p)) 9 = S 9 := by funext i; simp [rt0, mu]
  have e10 : (rt0 S a (nI p) (S 18 p)) 10 = S 10 := by funext i; simp [rt0, mu]
  have e11 : (rt0 S a (nI p) (S 18 p)) 11 = S 11 := by funext i; simp [rt0, mu]
  have e12 : (rt0 S a (nI p) (S 18 p)) 12 = S 12 := by funext i; simp [rt0, mu]
  have e14 : (rt0 S a (nI p) (S 18 p)) 14 = S 14 := by funext i; simp [rt0, mu]
  have e19 : (rt0 S a (nI p) (S 18 p)) 19 = S 19 := by funext i; simp [rt0, mu]
  have e20 : (rt0 S a (nI p) (S 18 p)) 20 = S 20 := by funext i; simp [rt0, mu]
  have e21 : (rt0 S a (nI p) (S 18 p)) 21 = S 21 := by funext i; simp [rt0, mu]
  have e22 : (rt0 S a (nI p) (S 18 p)) 22 = S 22 := by funext i; simp [rt0, mu]
  have e23 : (rt0 S a (nI p) (S 18 p)) 23 = S 23 := by funext i; simp [rt0, mu]
  have e24 : (rt0 S a (nI p) (S 18 p)) 24 = S 24 := by funext i; simp [rt0, mu]
  have e25 : (rt0 S a (nI p) (S 18 p)) 25 = S 25 := by funext i; simp [rt0, mu]
  have e26 : (rt0 S a (nI p) (S 18 p)) 26 = S 26 := by funext i; simp [rt0, mu]
  have e28 : (rt0 S a (nI p) (S 18 p)) 28 = S 28 := by funext i; simp [rt0, mu]
  have e29 : (rt0 S a (nI p) (S 18 p)) 29 = S 29 := by funext i; simp [rt0, mu]
  have e30 : (rt0 S a (nI p) (S 18 p)) 30 = S 30 := by funext i; simp [rt0, mu]
  have e31 : (rt0 S a (nI p) (S 18 p)) 31 = S 31 := by funext i; simp [rt0, mu]
  have x_vsp : vsp (rt0 S a (nI p) (S 18 p)) = vsp S := by unfold vsp; simp only [N, e10]
  have x_vrt : vrt (rt0 S a (nI p) (S 18 p)) n = vrt S n := by unfold vrt; simp only [N, e10, e11]
  have x_vnb : vnb (rt0 S a (nI p) (S 18 p)) n = vnb S n := by unfold vnb; simp only [N, e9]
  have x_vch : vch (rt0 S a (nI p) (S 18 p)) n = vch S n := by unfold vch; simp only [N, e20, e21]
  have x_vwt : vwt (rt0 S a (nI p) (S 18 p)) n = vwt S n := by unfold vwt; simp only [N, e19]
  have x_vth : vth (rt0 S a (nI p) (S 18 p)) n = vth S n := by unfold vth; simp only [N, e14]
  have x_vse : vse (rt0 S a (nI p) (S 18 p)) n = vse S n := by unfold vse; simp only [N, e22]
  have x_vR : vR (rt0 S a (nI p) (S 18 p)) = vR S := by unfold vR; simp only [N, e10, e12]
  have x_vtr : vtr (rt0 S a (nI p) (S 18 p)) n = vtr S n := by unfold vtr; simp only [N, e23]
  have x_vtq : vtq (rt0 S a (nI p) (S 18 p)) n = vtq S n := by unfold vtq; simp only [N, e23]
  have x_vst : vst (rt0 S a (nI p) (S 18 p)) n = vst S n := by unfold vst; simp only [N, e28]
  have x_vnr : vnr (rt0 S a (nI p) (S 18 p)) n = vnr S n := by unfold vnr; simp only [N, e29]
  have a8 : a < 8 := by omega
  have hpn : p < n := hw.1
  have e13 : ∀ x, (rt0 S a (nI p) (S 18 p)) 13 x = if x = a then 1 else S 13 x := fun x => by simp [rt0, mu]
  have e16 : ∀ x, (rt0 S a (nI p) (S 18 p)) 16 x = if x = a then nI p else S 16 x := fun x => by simp [rt0, mu]
  have e17 : ∀ x, (rt0 S a (nI p) (S 18 p)) 17 x = if x = a then (S 9 a &&& S 18 p) else S 17 x := fun x => by simp [rt0, mu]
  have e18 : ∀ x, (rt0 S a (nI p) (S 18 p)) 18 x = if x = a then (S 18 p ||| 1 <<< (nI a &&& 31)) else S 18 x := fun x => by simp [rt0, mu]
  have y1 : ∀ x, vhd (rt0 S a (nI p) (S 18 p)) n x ↔ vhd S n x ∨ x = a := fun x => by
    unfold vhd; rw [e13]; by_cases q : x = a
    · rw [if_pos q, q]; exact ⟨fun _ => Or.inr rfl, fun _ => ⟨ha, by decide⟩⟩
    · rw [if_neg q]; exact ⟨Or.inl, fun z => z.resolve_right q⟩
  have y2 : ∀ x y, vms (rt0 S a (nI p) (S 18 p)) n x y ↔ (if x = a then vms S n p y ∨ y = a else vms S n x y) := fun x y => by
    unfold vms; rw [e18]; by_cases q : x = a
    · rw [if_pos q, if_pos q, q]
      constructor
      · intro z; rcases (cI_in a8 z.2.1).mp z.2.2 with z1 | z1
        · exact Or.inl ⟨hpn, z.2.1, z1⟩
        · exact Or.inr z1
      · intro z; rcases z with z | z
        · exact ⟨ha, z.2.1, (cI_in a8 z.2.1).mpr (Or.inl z.2.2)⟩
        · exact ⟨ha, by omega, (cI_in a8 (by omega)).mpr (Or.inr z)⟩
    · rw [if_neg q, if_neg q]
  have y4 : ∀ x y, vpa (rt0 S a (nI p) (S 18 p)) n x y ↔ (if x = a then y = p else vpa S n x y) := fun x y => by
    unfold vpa; rw [e16]; by_cases q : x = a
    · rw [if_pos q, if_pos q, q]
      constructor
      · intro z; exact (nI_inj (by omega) (by omega) z.2.2).symm
      · intro z; rw [z]; exact ⟨ha, by omega, rfl⟩
    · rw [if_neg q, if_neg q]
  have y6 : ∀ x y, van (rt0 S a (nI p) (S 18 p)) n x y ↔ if x = a then vnb S n a y ∧ vms S n p y else van S n x y := fun x y => by
    unfold van vnb vms; rw [e17]; by_cases q : x = a
    · rw [if_pos q, if_pos q, q]
      constructor
      · intro z; have := (cI_and z.2.1).mp z.2.2; exact ⟨⟨ha, z.2.1, this.1⟩, hpn, z.2.1, this.2⟩
      · intro z; exact ⟨ha, z.1.2.1, (cI_and z.1.2.1).mpr ⟨z.1.2.2, z.2.2.2⟩⟩
    · rw [if_neg q, if_neg q]
  have D' := DI_tok D hn hna hw y1 y2 (A' := fun x y => if y = a then A x p ∨ x = p else A x y) (fun x y => Iff.rfl) y4 (hh' := fun x => x = a) (fun x => Iff.rfl) y6
  have E' := RI_tok D E hna hw y1 (A' := fun x y => if y = a then A x p ∨ x = p else A x y) (fun x y => Iff.rfl) y4
  have k6 := D.1.2.2.2.2.2.1 p a hw
  have na : ∀ x c, vch S n x c → c ≠ a := fun x c q e => hna (by rw [← e]; exact D.1.2.1 _ (D.1.2.2.2.2.1 _ _ q).2.1)
  have nm : ¬ cI (S 18 p) (nI a) := fun q => k6.2.2.1 ⟨hpn, a8, q⟩
  have pma : pm (rt0 S a (nI p) (S 18 p)) a = pm S p + 1 := by
    show pcN ((rt0 S a (nI p) (S 18 p)) 18 a) 8 = _
    rw [e18, if_pos rfl, pcN_in a8 nm 8 (Nat.le_refl _), if_pos a8]
  have pmx : ∀ x, x ≠ a → pm (rt0 S a (nI p) (S 18 p)) x = pm S x := fun x q => by
    show pcN ((rt0 S a (nI p) (S 18 p)) 18 x) 8 = _
    rw [e18, if_neg q]
  have t0 : vtr S n a = 0 := Nat.eq_zero_of_not_pos (fun q => hna (D.1.2.1 _ (E.1.1 _ q)))
  have q0 : vtq S n a = 0 := by have := E.1.2.2.1 a; omega
  have s0 : vst S n a = 0 := Nat.eq_zero_of_not_pos (fun q => by have := (E.2.2.2.1 a).2 q; omega)
  have cN : ∀ nv x cc, x ≠ a → costN (rt0 S a (nI p) (S 18 p)) nv x np cc = costN S nv x np cc := fun nv x cc hx => by
    have : s2N (rt0 S a (nI p) (S 18 p)) nv x np cc = s2N S nv x np cc := by
      simp only [s2N, s1N, e3, e4, e6, e7, e8, e20, e24, e26]
      rw [s1_an (an' := S 17) (by rw [e17, if_neg hx])]
    show (if s2N (rt0 S a (nI p) (S 18 p)) nv x np cc ≤ 1048576 then s2N (rt0 S a (nI p) (S 18 p)) nv x np cc else 1048576) = _
    rw [this]
  refine ⟨?_, ?_, ⟨?_, ?_⟩, ⟨?_, ?_⟩, ?_, ?_⟩
  · unfold vDI; rw [x_vsp, x_vrt, x_vnb, x_vch, x_vwt, x_vth, x_vse]; exact D'
  · unfold vRI; rw [x_vsp, x_vrt, x_vch, x_vth, x_vR, x_vtr, x_vtq, x_vst, x_vnr]; exact E'
  · intro x q
    by_cases hx : x = a
    · rw [hx, pma, upd_at]; show _ + 1 + sumB _ (N (rt0 S a (nI p) (S 18 p)) 21 a) ≤ _; simp only [N, e21]; rw [show (S 21 a).toNatClampNeg = 0 from hcc]; exact Nat.le_refl _
    · have q1 : vhd S n x := ((y1 x).mp q).resolve_right hx
      have q2 := NIh.1 x q1
      rw [pmx x hx, upd_ne hx]
      refine Nat.le_trans (Nat.le_of_eq ?_) q2
      refine congrArg (dd x + 1 + ·) ?_
      show sumB _ (N (rt0 S a (nI p) (S 18 p)) 21 x) = sumB _ (N S 21 x)
      simp only [N, e21, e20]
      refine sumB_c _ (fun j hj => ?_)
      obtain ⟨c, hc, hc2⟩ := CH x j q1.1 hj
      have hc3 : (S 20 (8 * x + j)).toNatClampNeg = c := N_nI hc2 (by omega)
      have : c ≠ a := na x c ⟨q1.1, by omega, j, hj, hc2⟩
      rw [hc3]
      show pm (rt0 S a (nI p) (S 18 p)) c - upn dd a (pm S p) c = pm S c - dd c
      rw [pmx c this, upd_ne this]
  · intro x b q1 q2
    rw [x_vwt] at q1
    by_cases hb : b = a
    · have hx : x = p := (y4 b x).mp (D'.1.2.2.2.2.2.2.1 x b q1 q2) |> fun z => by rw [if_pos hb] at z; exact z
      rw [hb, upd_at, hx, pmx p (fun e => hna (e ▸ k6.1))]
    · have hx : x ≠ a := fun e => hna (e ▸ (D.1.2.2.2.2.2.1 x b q1).1)
      rw [upd_ne hb, pmx x hx]; exact NIh.2 x b q1 (((y1 b).mp q2).resolve_right hb)
  · intro x q; rw [x_vtr] at q
    have hx : x ≠ a := fun e => by rw [e] at q; omega
    have z := TIh.1 x q
    simp only [wd, bnd, N, e3, e22, e24, e25, e26, e21] at z ⊢
    refine ⟨z.1, z.2.1, z.2.2.1, fun i hi => ?_⟩
    have z4 := z.2.2.2 i hi
    refine ⟨?_, ?_⟩
    · rw [z4.1]
      show nI (blR _ _) = nI (blR _ _)
      simp only [e3, e22]
      exact congrArg (fun f => nI (blR f _)) (funext fun k => (cN _ _ _ hx).symm)
    · show _ → _ ≤ 12987 * (pm (rt0 S a (nI p) (S 18 p)) x - _)
      rw [pmx x hx, upd_ne hx]; exact z4.2
  · intro b q; rw [x_vtq] at q
    have hb : b ≠ a := fun e => by rw [e] at q; omega
    have z := TIh.2 b q
    rw [x_vtq, x_vtr]
    simp only [wd, bnd, N, e3, e22, e24, e25, e26] at z ⊢
    refine ⟨z.1, z.2.1, fun i hi => ?_, z.2.2.2⟩
    show _ → _ ≤ 12987 * (pm (rt0 S a (nI p) (S 18 p)) b - _)
    rw [pmx b hb, upd_ne hb]; exact z.2.2.1 i hi
  · intro x hx
    have z := KIh x hx
    have kN : kv (rt0 S a (nI p) (S 18 p)) x = kv S x := by funext b; simp only [kv, N, e31]
    rw [x_vst, x_vR, kN]
    simp only [rowK, N, e3, e30, e31, e21] at z ⊢
    refine ⟨z.1, z.2.1, fun q => ?_, fun q => ?_, fun q => ?_⟩
    · have hx : x ≠ a := fun e => by rw [e] at q; omega
      have := z.2.2.1 q
      refine ⟨this.1, fun y hy r => this.2 y hy ?_⟩
      rwa [if_neg hx] at r
    · have hx : x ≠ a := fun e => q p ((y4 x p).mpr (by rw [if_pos e]))
      exact z.2.2.2.1 (fun p' r => q p' ((y4 x p').mpr (by rw [if_neg hx]; exact r)))
    · by_cases hxa : x = a
      · have := (E.1.2.2.2.2.1 a ha).1
        rw [hxa] at q; omega
      · rw [cN _ _ _ hxa]; exact z.2.2.2.2 q
  · have z := PIh
    unfold PI at z ⊢
    rw [x_vrt, x_vnb, x_vsp]
    simp only [e10, e11]
    exact z
end
