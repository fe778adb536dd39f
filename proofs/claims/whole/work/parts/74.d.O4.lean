/-! SIMULATION O4. Laid by wip/whole/gen/p71.py -/
section
variable {S T : mS} {n np : Nat} {A : Rl} {dd : Nat → Nat} {hh : Nat → Prop}
theorem blR_c {f g : Nat → Nat} : ∀ z, (∀ k, k < z → f k = g k) → blR f z = blR g z
  | 0, _ => rfl
  | z + 1, h => by rw [blR, blR, blR_c z (fun k hk => h k (by omega)), h z (by omega)]
theorem s2_ce {s a : Nat} {ch ms ms' ce ce' z : Nat → Int32} {nv : Nat → Nat} : ∀ k, (∀ j, j < k → ms (8 + (ch (8 * a + j)).toNatClampNeg) = ms' (8 + (ch (8 * a + j)).toNatClampNeg) ∧ ce (256 * (8 + (ch (8 * a + j)).toNatClampNeg) + plR z (ms' (8 + (ch (8 * a + j)).toNatClampNeg)) nv 8) = ce' (256 * (8 + (ch (8 * a + j)).toNatClampNeg) + plR z (ms' (8 + (ch (8 * a + j)).toNatClampNeg)) nv 8)) → s2R s ch ms ce z nv a k = s2R s ch ms' ce' z nv a k
  | 0, _ => rfl
  | k + 1, h => by
    have q := h k (by omega)
    rw [s2R, s2R, s2_ce k (fun j hj => h j (by omega)), q.1, q.2]
theorem s1_c {o f g c c' an : Nat → Int32} {nv : Nat → Nat} {a : Nat} : ∀ k, (∀ p, p < k → (f p = nI a ∧ cI (an a) (g p)) ∨ (g p = nI a ∧ cI (an a) (f p)) → c (16 * p + 4 * nv (f p).toNatClampNeg + nv (g p).toNatClampNeg) = c' (16 * p + 4 * nv (f p).toNatClampNeg + nv (g p).toNatClampNeg)) → s1R o f g c an nv a k = s1R o f g c' an nv a k
  | 0, _ => rfl
  | k + 1, h => by
    rw [s1R, s1R, s1_c k (fun p hp => h p (by omega))]
    split
    · rename_i q; rw [h k (by omega) q]
    · rfl
theorem nv_dg {a i k : Nat} (h3 : ∀ b, b < 8 → nn S 3 b 4) (h2 : ∀ b, b < n → 2 ≤ N S 3 b) (ha : a < n) (hk : k < N S 3 a) (hs : ∀ b, b < 8 → cI (S 22 a) (nI b) → b < n) : nvok S n (upn (dgR (S 3) (S 22 a) i) a k) := by
  intro b hb
  have q := h3 b hb
  by_cases e : b = a
  · rw [e] at q ⊢
    rw [upd_at]
    exact ⟨by have := q.2; omega, fun _ => hk⟩
  · rw [upd_ne e]
    unfold dgR
    split
    · rename_i y
      rcases Nat.eq_zero_or_pos (N S 3 b) with z | z
      · have := h2 b (hs b hb y); omega
      · have l := Nat.mod_lt (i / unR (S 3) (S 22 a) b) z
        exact ⟨by have := q.2; exact Nat.lt_of_lt_of_le l this, fun _ => l⟩
    · exact ⟨by omega, fun z => by have := h2 b z; omega⟩
theorem nv_kv {a : Nat} (h3 : ∀ b, b < 8 → nn S 3 b 4) (h2 : ∀ b, b < n → 2 ≤ N S 3 b) (hk : rowK S n (fun x => S 31 (8 * a + x))) : nvok S n (kv S a) := by
  intro b hb
  have q := h3 b hb
  show (S 31 (8 * a + b)).toNatClampNeg < 4 ∧ (b < n → (S 31 (8 * a + b)).toNatClampNeg < N S 3 b)
  rcases hk b hb with z | ⟨z1, v, z2, z3⟩
  · have z' : S 31 (8 * a + b) = -1 := z
    rw [z']
    exact ⟨by decide, fun y => by have := h2 b y; show 0 < _; omega⟩
  · have z' : S 31 (8 * a + b) = nI v := z3
    rw [z', nI_clamp (by have := q.2; omega)]
    exact ⟨by have := q.2; omega, fun _ => z2⟩
theorem IX_dlv {a b : Nat} (hI : IS S n np A dd hh) (h8 : n ≤ 8) (h3 : ∀ b, b < 8 → nn S 3 b 4) (h2 : ∀ b, b < n → 2 ≤ N S 3 b) (CH : ∀ a k, a < n → k < N S 21 a → ∃ c, c < n ∧ S 20 (8 * a + k) = nI c)
    (hpa : vpa S n b a) (hu : vtq S n b < vtr S n b) (hr : S 38 20 = nI (vtr S n b)) (hR : vtr S n b < 2 ^ 31) (hmk : S 40 20 = S 22 b) (hmy : S 39 20 = nI (wd S b)) (hce : ∀ i, i < wd S b → S 41 (5120 + i) = S 26 (256 * b + i)) :
    IX (tb0 S b) n np A dd hh a := by
  obtain ⟨D, E, NIh, TIh, KIh, PIh⟩ := hI
  have e3 : (tb0 S b) 3 = S 3 := by funext i; simp [tb0, cpB, tb1, mu]
  have e4 : (tb0 S b) 4 = S 4 := by funext i; simp [tb0, cpB, tb1, mu]
  have e6 : (tb0 S b) 6 = S 6 := by funext i; simp [tb0, cpB, tb1, mu]
  have e7 : (tb0 S b) 7 = S 7 := by funext i; simp [tb0, cpB, tb1, mu]
  have e8 : (tb0 S b) 8 = S 8 := by funext i; simp [tb0, cpB, tb1, mu]
  have e9 : (tb0 S b) 9 = S 9 := by funext i; simp [tb0, cpB, tb1, mu]
  have e10 : (tb0 S b) 10 = S 10 := by funext i; simp [tb0, cpB, tb1, mu]
  have e11 : (tb0 S b) 11 = S 11 := by funext i; simp [tb0, cpB, tb1, mu]
  have e12 : (tb0 S b) 12 = S 12 := by funext i; simp [tb0, cpB, tb1, mu]
  have e13 : (tb0 S b) 13 = S 13 := by funext i; simp [tb0, cpB, tb1, mu]
  have e14 : (tb0 S b) 14 = S 14 := by funext i; simp [tb0, cpB, tb1, mu]
  have e16 : (tb0 S b) 16 = S 16 := by funext i; simp [tb0, cpB, tb1, mu]
  have e17 : (tb0 S b) 17 = S 17 := by funext i; simp [tb0, cpB, tb1, mu]
  have e18 : (tb0 S b) 18 = S 18 := by funext i; simp [tb0, cpB, tb1, mu]
  have e19 : (tb0 S b) 19 = S 19 := by funext i; simp [tb0, cpB, tb1, mu]
  have e20 : (tb0 S b) 20 = S 20 := by funext i; simp [tb0, cpB, tb1, mu]
  have e21 : (tb0 S b) 21 = S 21 := by funext i; simp [tb0, cpB, tb1, mu]
  have e22 : (tb0 S b) 22 = S 22 := by funext i; simp [tb0, cpB, tb1, mu]
  have e28 : (tb0 S b) 28 = S 28 := by funext i; simp [tb0, cpB, tb1, mu]
  have e29 : (tb0 S b) 29 = S 29 := by funext i; simp [tb0, cpB, tb1, mu]
  have e30 : (tb0 S b) 30 = S 30 := by funext i; simp [tb0, cpB, tb1, mu]
  have e31 : (tb0 S b) 31 = S 31 := by funext i; simp [tb0, cpB, tb1, mu]
  have x_vsp : vsp (tb0 S b) = vsp S := by unfold vsp; simp only [N, e10]
  have x_vrt : vrt (tb0 S b) n = vrt S n := by unfold vrt; simp only [N, e10, e11]
  have x_vnb : vnb (tb0 S b) n = vnb S n := by unfold vnb; simp only [N, e9]
  have x_vms : vms (tb0 S b) n = vms S n := by unfold vms; simp only [N, e18]
  have x_vch : vch (tb0 S b) n = vch S n := by unfold vch; simp only [N, e20, e21]
  have x_vwt : vwt (tb0 S b) n = vwt S n := by unfold vwt; simp only [N, e19]
  have x_vpa : vpa (tb0 S b) n = vpa S n := by unfold vpa; simp only [N, e16]
  have x_vhd : vhd (tb0 S b) n = vhd S n := by unfold vhd; simp only [N, e13]
  have x_vth : vth (tb0 S b) n = vth S n := by unfold vth; simp only [N, e14]
  have x_van : van (tb0 S b) n = van S n := by unfold van; simp only [N, e17]
  have x_vse : vse (tb0 S b) n = vse S n := by unfold vse; simp only [N, e22]
  have x_vR : vR (tb0 S b) = vR S := by unfold vR; simp only [N, e10, e12]
  have x_vst : vst (tb0 S b) n = vst S n := by unfold vst; simp only [N, e28]
  have x_vnr : vnr (tb0 S b) n = vnr S n := by unfold vnr; simp only [N, e29]
  have hbn : b < n := hpa.1
  have b8 : b < 8 := by omega
  have htb : 0 < vtr S n b := by omega
  have wb := (TIh.1 b htb).2.2.1
  have n39 : N S 39 20 = wd S b := N_nI hmy (by omega)
  have f23 : ∀ x, (tb0 S b) 23 x = if x = 8 + b then nI (vtr S n b) else S 23 x := fun x => by rw [← hr]; simp [tb0, cpB, tb1, mu]
  have f24 : ∀ x, (tb0 S b) 24 x = if x = 8 + b then S 22 b else S 24 x := fun x => by rw [← hmk]; simp [tb0, cpB, tb1, mu]
  have f25 : ∀ x, (tb0 S b) 25 x = if x = 8 + b then nI (wd S b) else S 25 x := fun x => by rw [← hmy]; simp [tb0, cpB, tb1, mu]
  have f26 : ∀ x, (tb0 S b) 26 x = if 2048 + 256 * b ≤ x ∧ x < 2048 + 256 * b + wd S b then S 41 (5120 + (x - (2048 + 256 * b))) else S 26 x := fun x => by
    show (if 26 = 26 ∧ 2048 + 256 * b ≤ x ∧ x < 2048 + 256 * b + N S 39 20 then tb1 S b 41 _ else tb1 S b 26 x) = _
    rw [n39]
    have q1 : ∀ y, tb1 S b 41 y = S 41 y := fun y => by simp [tb1, mu]
    have q2 : ∀ y, tb1 S b 26 y = S 26 y := fun y => by simp [tb1, mu]
    rw [q1, q2]
    simp only [true_and]
  have y1 : vtr (tb0 S b) n = vtr S n := by
    funext x; show (if x < n then ((tb0 S b) 23 x).toNatClampNeg else 0) = (if x < n then (S 23 x).toNatClampNeg else 0)
    by_cases q : x < n
    · rw [if_pos q, if_pos q, f23, if_neg (by omega)]
    · rw [if_neg q, if_neg q]
  have y2 : ∀ x, vtq (tb0 S b) n x = if x = b then vtr S n b else vtq S n x := fun x => by
    show (if x < n then ((tb0 S b) 23 (8 + x)).toNatClampNeg else 0) = _
    by_cases q : x = b
    · rw [if_pos q, q, if_pos hbn, f23, if_pos rfl, nI_clamp hR]
    · rw [if_neg q, f23, if_neg (by omega : ¬ 8 + x = 8 + b)]; rfl
  have E' := RI_dlv D E hu y2
  have sen : ∀ c x, vse S n c x → x < n := fun c x q => D.1.1 _ (D.2.1.2.2.2.2.1 _ _ (D.2.2.2.1.2.1 _ _ q)).1
  have cN : ∀ nv x, nvok S n nv → x ≠ a → x < n → 0 < vtr S n x → costN (tb0 S b) nv x np (N S 21 x) = costN S nv x np (N S 21 x) := fun nv x hnv hx hxn htx => by
    have : s2N (tb0 S b) nv x np (N S 21 x) = s2N S nv x np (N S 21 x) := by
      simp only [s2N, s1N, e3, e4, e6, e7, e8, e17, e20]
      refine s2_ce _ (fun j hj => ?_)
      obtain ⟨c, hc, hc2⟩ := CH x j hxn hj
      have hc3 : (S 20 (8 * x + j)).toNatClampNeg = c := N_nI hc2 (by omega)
      rw [hc3]
      have hch : vch S n x c := ⟨hxn, by omega, j, hj, hc2⟩
      have hcb : c ≠ b := fun e => hx (D.2.2.1.2.1 _ _ _ ((D.1.2.2.2.2.1 _ _ hch).1) (e ▸ hpa))
      have q1 := E.1.2.1 x c htx hch
      have q2 := TIh.2 c q1
      have q3 := (TIh.1 c (Nat.lt_of_lt_of_le q1 (E.1.2.2.1 c))).2.2.1
      have q4 : plR (S 3) (S 24 (8 + c)) nv 8 < wd S c := by
        rw [q2.1]
        exact plR_lt 8 (fun y hy q => (hnv y hy).2 (sen c y ⟨hc, hy, q⟩))
      refine ⟨by rw [f24, if_neg (by omega)], by rw [f26, if_neg (by omega)]⟩
    show (if s2N (tb0 S b) nv x np _ ≤ 1048576 then s2N (tb0 S b) nv x np _ else 1048576) = _
    rw [this]
  have vtn : ∀ x, 0 < vtr S n x → x < n := fun x q => by
    rcases Nat.lt_or_ge x n with z | z
    · exact z
    · unfold vtr at q; rw [if_neg (by omega)] at q; omega
  refine ⟨?_, ?_, ?_, ⟨?_, ?_⟩, ?_, ?_⟩
  · unfold vDI; rw [x_vsp, x_vrt, x_vnb, x_vms, x_vch, x_vwt, x_vpa, x_vhd, x_vth, x_van, x_vse]; exact D
  · unfold vRI; rw [x_vsp, x_vrt, x_vch, x_vpa, x_vhd, x_vth, x_vR, y1, x_vst, x_vnr]; exact E'
  · have : NI (tb0 S b) n dd = NI S n dd := by simp only [NI, csm, pm, N, x_vhd, x_vwt, e18, e20, e21]
    rw [this]; exact NIh
  · intro x hx q
    rw [y1] at q
    have hxn := vtn x q
    have z0 := TIh.1 x q
    have c26 : ∀ i, i < wd S x → (tb0 S b) 26 (256 * x + i) = S 26 (256 * x + i) := fun i hi => by
      have := z0.2.2.1
      rw [f26, if_neg (by omega)]
    have wde : wd (tb0 S b) x = wd S x := by simp only [wd, unN, e3, e22]
    rw [wde]
    refine ⟨by rw [f24, if_neg (by omega), e22]; exact z0.1, by rw [f25, if_neg (by omega)]; exact z0.2.1, z0.2.2.1, fun i hi => ?_⟩
    have z4 := z0.2.2.2 i hi
    simp only [N]
    rw [c26 i hi]
    simp only [N, bnd, pm, e21, e3, e18] at z4 ⊢
    refine ⟨?_, z4.2⟩
    rw [z4.1]
    simp only [tabN, e3, e22]
    refine congrArg nI (blR_c _ (fun k hk => ?_))
    exact (cN _ _ (nv_dg h3 h2 hxn hk (fun y hy q => sen x y ⟨hxn, hy, q⟩)) hx hxn q).symm
  · intro x q
    have wde : wd (tb0 S b) x = wd S x := by simp only [wd, unN, e3, e22]
    rw [wde, y1]
    by_cases hx : x = b
    · rw [hx, f24, if_pos rfl, f25, if_pos rfl, e22]
      have c26 : ∀ i, i < wd S b → (tb0 S b) 26 (256 * (8 + b) + i) = S 26 (256 * b + i) := fun i hi => by
        rw [f26, if_pos (by omega), ← hce i hi]
        exact congrArg (S 41) (by omega)
      have c26' : ∀ i, i < wd S b → (tb0 S b) 26 (256 * b + i) = S 26 (256 * b + i) := fun i hi => by rw [f26, if_neg (by omega)]
      refine ⟨rfl, rfl, fun i hi => ?_, fun _ i hi => ?_⟩
      · simp only [N, bnd, pm, e18]; rw [c26 i hi]; exact ((TIh.1 b htb).2.2.2 i hi).2
      · rw [c26 i hi, c26' i hi]
    · rw [y2, if_neg hx] at q
      have hxn := vtn x (Nat.lt_of_lt_of_le q (E.1.2.2.1 x))
      have z0 := TIh.2 x q
      have wx := (TIh.1 x (Nat.lt_of_lt_of_le q (E.1.2.2.1 x))).2.2.1
      have c26 : ∀ i, i < wd S x → (tb0 S b) 26 (256 * (8 + x) + i) = S 26 (256 * (8 + x) + i) := fun i hi => by rw [f26, if_neg (by omega)]
      have c26' : ∀ i, i < wd S x → (tb0 S b) 26 (256 * x + i) = S 26 (256 * x + i) := fun i hi => by rw [f26, if_neg (by omega)]
      rw [f24, if_neg (by omega), f25, if_neg (by omega), e22, y2, if_neg hx]
      refine ⟨z0.1, z0.2.1, fun i hi => ?_, fun q1 i hi => ?_⟩
      · simp only [N, bnd, pm, e18]; rw [c26 i hi]; exact z0.2.2.1 i hi
      · rw [c26 i hi, c26' i hi]; exact z0.2.2.2 q1 i hi
  · intro x hx
    have z := KIh x hx
    have kN : kv (tb0 S b) x = kv S x := by funext b; simp only [kv, N, e31]
    rw [x_vst, x_vR, kN, x_vpa]
    have nkv := nv_kv (a := x) h3 h2 z.1
    simp only [rowK, N, e3, e30, e31, e21] at z ⊢
    refine ⟨z.1, z.2.1, z.2.2.1, z.2.2.2.1, fun q => ?_⟩
    have R1 := (E.1.2.2.2.2.1 x hx).1
    by_cases hxa : x = a
    · exfalso
      have q1 := D.1.2.2.2.2.2.2.2 b a hpa
      obtain ⟨r, q2, q3, -⟩ := D.2.2.1.2.2.2.2.2.1 b q1.1
      have sra : vsp S r a := D.2.2.1.2.2.2.2.2.2.2.2.2.1 _ _ _ q3 q1.2.2.2.1
      have q4 := E.2.2.2.2.1 a r (hxa ▸ hx) (hxa ▸ q) q2 sra
      have q5 := E.2.2.2.2.2.1 r q2 q4
      have q6 := E.2.1 r b a q2 q5 hpa (D.2.2.1.2.2.2.2.2.2.2.2.1 _ _ q3)
      omega
    · rw [show costN (tb0 S b) (kv S x) x np (S 21 x).toNatClampNeg = costN S (kv S x) x np (N S 21 x) from cN _ _ nkv hxa hx ((E.2.2.2.1 x).2 (by omega))]
      exact z.2.2.2.2 q
  · have : PI (tb0 S b) n = PI S n := by simp only [PI, x_vrt, x_vnb, x_vsp, e10, e11]
    rw [this]; exact PIh
theorem IS_cho {a v : Nat} {e : Nat → Int32} (hI : IS S n np A dd hh) (h8 : n ≤ 8) (ha : a < n) (hR : vR S a < 2 ^ 31) (hrow : ∀ j, j ∈ [3, 4, 6, 7, 8, 9, 10, 11, 12, 13, 14, 16, 17, 18, 19, 20, 21, 22, 23, 24, 25, 26, 28, 29, 30, 31] → j ≠ 28 → j ≠ 30 → j ≠ 31 → T j = S j) (f28 : ∀ x, T 28 x = if x = a then nI (vR S a) else S 28 x) (f30 : ∀ x, T 30 x = if x = a then nI v else S 30 x)
    (f31 : ∀ i, T 31 i = if 8 * a ≤ i ∧ i < 8 * a + 8 then (if i = 8 * a + a then nI v else e (i - 8 * a)) else S 31 i) (hv : v < N S 3 a) (hv2 : v < 2 ^ 31) (he : rowK S n e) (heA : ∀ x, x < 8 → A x a → e x ≠ -1) (her : (∀ p, ¬ vpa S n a p) → ∀ x, x < 8 → x ≠ a → e x = -1)
    (hc : costN S (fun x => if x = a then v else (e x).toNatClampNeg) a np (N S 21 a) < 1048576) (hcg : ∀ y, y < n → ∀ nv nw : Nat → Nat, (∀ x, x < 8 → nv x = nw x) → costN S nv y np (N S 21 y) = costN S nw y np (N S 21 y))
    (ht : 0 < vtr S n a) (hn1 : vrt S n a → vtr S n a = vR S a ∧ vnr S n a ≠ vR S a) (hp : ∀ r, vrt S n r → vsp S r a → r ≠ a → vst S n r = vR S r) (hpp : ∀ p, vpa S n a p → vst S n p = vR S p) :
    IS T n np A dd hh := by
  obtain ⟨D, E, NIh, TIh, KIh, PIh⟩ := hI
  have e3 := hrow 3 (by decide) (by decide) (by decide) (by decide)
  have e4 := hrow 4 (by decide) (by decide) (by decide) (by decide)
  have e6 := hrow 6 (by decide) (by decide) (by decide) (by decide)
  have e7 := hrow 7 (by decide) (by decide) (by decide) (by decide)
  have e8 := hrow 8 (by decide) (by decide) (by decide) (by decide)
  have e9 := hrow 9 (by decide) (by decide) (by decide) (by decide)
  have e10 := hrow 10 (by decide) (by decide) (by decide) (by decide)
  have e11 := hrow 11 (by decide) (by decide) (by decide) (by decide)
  have e12 := hrow 12 (by decide) (by decide) (by decide) (by decide)
  have e13 := hrow 13 (by decide) (by decide) (by decide) (by decide)
  have e14 := hrow 14 (by decide) (by decide) (by decide) (by decide)
  have e16 := hrow 16 (by decide) (by decide) (by decide) (by decide)
  have e17 := hrow 17 (by decide) (by decide) (by decide) (by decide)
  have e18 := hrow 18 (by decide) (by decide) (by decide) (by decide)
  have e19 := hrow 19 (by decide) (by decide) (by decide) (by decide)
  have e20 := hrow 20 (by decide) (by decide) (by decide) (by decide)
  have e21 := hrow 21 (by decide) (by decide) (by decide) (by decide)
  have e22 := hrow 22 (by decide) (by decide) (by decide) (by decide)
  have e23 := hrow 23 (by decide) (by decide) (by decide) (by decide)
  have e24 := hrow 24 (by decide) (by decide) (by decide) (by decide)
  have e25 := hrow 25 (by decide) (by decide) (by decide) (by decide)
  have e26 := hrow 26 (by decide) (by decide) (by decide) (by decide)
  have e29 := hrow 29 (by decide) (by decide) (by decide) (by decide)
  have x_vsp : vsp (T) = vsp S := by unfold vsp; simp only [N, e10]
  have x_vrt : vrt (T) n = vrt S n := by unfold vrt; simp only [N, e10, e11]
  have x_vnb : vnb (T) n = vnb S n := by unfold vnb; simp only [N, e9]
  have x_vms : vms (T) n = vms S n := by unfold vms; simp only [N, e18]
  have x_vch : vch (T) n = vch S n := by unfold vch; simp only [N, e20, e21]
  have x_vwt : vwt (T) n = vwt S n := by unfold vwt; simp only [N, e19]
  have x_vpa : vpa (T) n = vpa S n := by unfold vpa; simp only [N, e16]
  have x_vhd : vhd (T) n = vhd S n := by unfold vhd; simp only [N, e13]
  have x_vth : vth (T) n = vth S n := by unfold vth; simp only [N, e14]
  have x_van : van (T) n = van S n := by unfold van; simp only [N, e17]
  have x_vse : vse (T) n = vse S n := by unfold vse; simp only [N, e22]
  have x_vR : vR (T) = vR S := by unfold vR; simp only [N, e10, e12]
  have x_vtr : vtr (T) n = vtr S n := by unfold vtr; simp only [N, e23]
  have x_vtq : vtq (T) n = vtq S n := by unfold vtq; simp only [N, e23]
  have x_vnr : vnr (T) n = vnr S n := by unfold vnr; simp only [N, e29]
  have sN : ∀ nv x cc, s2N (T) nv x np cc = s2N S nv x np cc := fun nv x cc => by simp only [s2N, s1N, e3, e4, e6, e7, e8, e17, e20, e24, e26]
  have cN : ∀ nv x cc, costN (T) nv x np cc = costN S nv x np cc := fun nv x cc => by
    show (if s2N (T) nv x np cc ≤ 1048576 then s2N (T) nv x np cc else 1048576) = _
    rw [sN]
  have tN : ∀ x cc z i, tabN (T) x np cc z i = tabN S x np cc z i := fun x cc z i => by simp only [tabN, cN, e3, e22]
  have TIe : TI (T) n np dd = TI S n np dd := by simp only [TI, N, pm, wd, bnd, unN, tN, x_vtr, x_vtq, e3, e18, e20, e21, e22, e24, e25, e26]
  have PIe : PI (T) n = PI S n := by simp only [PI, x_vrt, x_vnb, x_vsp, e10, e11]
  have y1 : ∀ x, vst T n x = if x = a then vR S a else vst S n x := fun x => by
    show (if x < n then (T 28 x).toNatClampNeg else 0) = _
    rw [f28]; by_cases q : x = a
    · rw [if_pos q, if_pos q, q, if_pos ha, nI_clamp hR]
    · rw [if_neg q, if_neg q]; rfl
  have E' := RI_set D E ht hn1 hp hpp y1
  have R1 := (E.1.2.2.2.2.1 a ha).1
  refine ⟨?_, ?_, ?_, ?_, ?_, ?_⟩
  · unfold vDI; rw [x_vsp, x_vrt, x_vnb, x_vms, x_vch, x_vwt, x_vpa, x_vhd, x_vth, x_van, x_vse]; exact D
  · unfold vRI; rw [x_vsp, x_vrt, x_vch, x_vpa, x_vhd, x_vth, x_vR, x_vtr, x_vtq, x_vnr]; exact E'
  · have : NI T n dd = NI S n dd := by simp only [NI, csm, pm, N, x_vhd, x_vwt, e18, e20, e21]
    rw [this]; exact NIh
  · rw [TIe]; exact TIh
  · intro x hx
    by_cases hxa : x = a
    · rw [hxa]
      have g31 : ∀ y, y < 8 → T 31 (8 * a + y) = if y = a then nI v else e y := fun y hy => by
        rw [f31, if_pos (by omega)]
        by_cases q : y = a
        · rw [if_pos (by omega), if_pos q]
        · rw [if_neg (by omega), if_neg q, show 8 * a + y - 8 * a = y by omega]
      rw [y1, if_pos rfl, x_vR, x_vpa]
      refine ⟨?_, fun q => by omega, fun _ => ⟨?_, fun y hy q => ?_⟩, fun q y hy hya => ?_, fun _ => ?_⟩
      · intro y hy
        show T 31 (8 * a + y) = -1 ∨ (y < n ∧ ∃ v, v < N T 3 y ∧ T 31 (8 * a + y) = nI v)
        rw [g31 y hy]
        simp only [N, e3]
        by_cases q : y = a
        · rw [if_pos q, q]; exact Or.inr ⟨ha, v, hv, rfl⟩
        · rw [if_neg q]; exact he y hy
      · rw [f30, if_pos rfl, g31 a (by omega), if_pos rfl]
      · rw [g31 y hy]
        by_cases q2 : y = a
        · rw [if_pos q2]; exact fun e => absurd (show nI v < 0 by rw [e]; decide) (nI_pos hv2)
        · rw [if_neg q2]; exact heA y hy (q.resolve_right q2)
      · rw [g31 y hy, if_neg hya]; exact her q y hy hya
      · rw [cN]
        simp only [N, e21]
        refine Nat.lt_of_le_of_lt (Nat.le_of_eq (hcg a ha _ _ (fun y hy => ?_))) hc
        show (T 31 (8 * a + y)).toNatClampNeg = _
        rw [g31 y hy]
        by_cases q : y = a
        · rw [if_pos q, if_pos q, nI_clamp hv2]
        · rw [if_neg q, if_neg q]
    · have z := KIh x hx
      have g31 : ∀ y, y < 8 → T 31 (8 * x + y) = S 31 (8 * x + y) := fun y hy => by rw [f31, if_neg (by omega)]
      have kN : ∀ y, y < 8 → kv T x y = kv S x y := fun y hy => by show (T 31 (8 * x + y)).toNatClampNeg = _; rw [g31 y hy]
      rw [y1, if_neg hxa, x_vR, x_vpa, cN]
      simp only [N, e21]
      refine ⟨?_, fun q y hy => by rw [g31 y hy]; exact z.2.1 q y hy, fun q => ⟨?_, fun y hy r => by rw [g31 y hy]; exact (z.2.2.1 q).2 y hy r⟩, fun q y hy r => by rw [g31 y hy]; exact z.2.2.2.1 q y hy r, fun q => ?_⟩
      · intro y hy
        show T 31 (8 * x + y) = -1 ∨ (y < n ∧ ∃ v, v < N T 3 y ∧ T 31 (8 * x + y) = nI v)
        rw [g31 y hy]; simp only [N, e3]; exact z.1 y hy
      · rw [f30, if_neg hxa, g31 x (by omega)]; exact (z.2.2.1 q).1
      · refine Nat.lt_of_le_of_lt (Nat.le_of_eq (hcg x hx _ _ kN)) (z.2.2.2.2 q)
  · rw [PIe]; exact PIh
end
