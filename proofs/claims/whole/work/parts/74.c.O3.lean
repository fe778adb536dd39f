/-! SIMULATION O3. Laid by wip/whole/gen/p71.py -/
section
variable {S : mS} {n np : Nat} {A : Rl} {dd : Nat → Nat} {hh : Nat → Prop}
/-- tables, that of ex apart -/
def TX (S : mS) (n np : Nat) (dd : Nat → Nat) (ex : Nat) : Prop :=
  (∀ a, a ≠ ex → 0 < vtr S n a → S 24 a = S 22 a ∧ S 25 a = nI (wd S a) ∧ wd S a ≤ 256 ∧ ∀ i, i < wd S a → S 26 (256 * a + i) = nI (tabN S a np (N S 21 a) (N S 3 a) i) ∧ (N S 26 (256 * a + i) < 1048576 → N S 26 (256 * a + i) ≤ bnd S dd a)) ∧
  ∀ b, 0 < vtq S n b → S 24 (8 + b) = S 22 b ∧ S 25 (8 + b) = nI (wd S b) ∧ (∀ i, i < wd S b → N S 26 (256 * (8 + b) + i) < 1048576 → N S 26 (256 * (8 + b) + i) ≤ bnd S dd b) ∧ (vtq S n b = vtr S n b → ∀ i, i < wd S b → S 26 (256 * (8 + b) + i) = S 26 (256 * b + i))
def IX (S : mS) (n np : Nat) (A : Rl) (dd : Nat → Nat) (hh : Nat → Prop) (ex : Nat) : Prop := vDI S n A hh ∧ vRI S n A ∧ NI S n dd ∧ TX S n np dd ex ∧ KI S n np A ∧ PI S n
theorem IX_of {ex : Nat} (h : IS S n np A dd hh) : IX S n np A dd hh ex := ⟨h.1, h.2.1, h.2.2.1, ⟨fun a _ => h.2.2.2.1.1 a, h.2.2.2.1.2⟩, h.2.2.2.2⟩
theorem IX_to {ex : Nat} (h : IX S n np A dd hh ex) (h0 : vtr S n ex = 0) : IS S n np A dd hh :=
  ⟨h.1, h.2.1, h.2.2.1, ⟨fun a q => h.2.2.2.1.1 a (fun e => by rw [e, h0] at q; exact Nat.lt_irrefl _ q) q, h.2.2.2.1.2⟩, h.2.2.2.2⟩
def bd (m B : Nat) : Prop := m ≤ B ∨ 1048576 ≤ m
theorem bd_add {m k B D : Nat} (h1 : bd m B) (h2 : bd k D) : bd (m + k) (B + D) := by unfold bd at *; omega
theorem bd_mono {m B D : Nat} (h : bd m B) (h2 : B ≤ D) : bd m D := by unfold bd at *; omega
theorem bd_of {m B : Nat} (h : m < 1048576 → m ≤ B) : bd m B := by
  unfold bd
  rcases Nat.lt_or_ge m 1048576 with q | q
  · exact Or.inl (h q)
  · exact Or.inr q
theorem s1_bd {nv : Nat → Nat} {a : Nat} (ha : a < 8) (hv : ∀ b, b < 8 → nv b < 4) (h4 : ∀ i, i < 32 → N S 4 i < 1048576 → N S 4 i ≤ 999) (h8 : ∀ i, i < 192 → N S 8 i < 1048576 → N S 8 i ≤ 999) (h12 : np ≤ 12) (hp : ∀ p, p < np → N S 6 p < 8 ∧ N S 7 p < 8) :
    ∀ p, p ≤ np → bd (s1N S nv a p) (999 * (p + 1))
  | 0, _ => bd_of (h4 _ (by have := hv a ha; omega))
  | p + 1, h => by
    have ih := s1_bd ha hv h4 h8 h12 hp p (by omega)
    show bd (if _ then _ else _) _
    split
    · refine bd_mono (bd_add ih (bd_of (B := 999) (h8 _ ?_))) (by omega)
      have q := hp p (by omega)
      have q1 : nv (S 6 p).toNatClampNeg < 4 := hv _ q.1
      have q2 : nv (S 7 p).toNatClampNeg < 4 := hv _ q.2
      omega
    · exact bd_mono ih (by omega)
theorem s2_bd {nv : Nat → Nat} {a s B cc : Nat} {Bc : Nat → Nat} (h0 : bd s B) (ht : ∀ k, k < cc → bd (N S 26 (256 * (8 + N S 20 (8 * a + k)) + plR (S 3) (S 24 (8 + N S 20 (8 * a + k))) nv 8)) (Bc k)) : ∀ k, k ≤ cc → bd (s2R s (S 20) (S 24) (S 26) (S 3) nv a k) (B + sumB Bc k)
  | 0, _ => h0
  | k + 1, h => by
    rw [s2R, sumB, ← Nat.add_assoc]
    exact bd_add (s2_bd h0 ht k (by omega)) (ht k (by omega))
theorem sumB_mul {f : Nat → Nat} {m : Nat} : ∀ k, sumB (fun j => m * f j) k = m * sumB f k
  | 0 => rfl
  | k + 1 => by rw [sumB, sumB, sumB_mul k, Nat.mul_add]
/-- a finite cost is small -/
theorem cost_bd {nv : Nat → Nat} {a cc : Nat} (hcc : cc = N S 21 a) (ha : a < 8) (hv : ∀ b, b < 8 → nv b < 4) (h4 : ∀ i, i < 32 → N S 4 i < 1048576 → N S 4 i ≤ 999) (h8 : ∀ i, i < 192 → N S 8 i < 1048576 → N S 8 i ≤ 999) (h12 : np ≤ 12) (hp : ∀ p, p < np → N S 6 p < 8 ∧ N S 7 p < 8)
    (hd : dd a + 1 + csm S dd a ≤ pm S a) (ht : ∀ k, k < cc → S 24 (8 + N S 20 (8 * a + k)) = S 22 (N S 20 (8 * a + k)) ∧ (∀ i, i < wd S (N S 20 (8 * a + k)) → N S 26 (256 * (8 + N S 20 (8 * a + k)) + i) < 1048576 → N S 26 (256 * (8 + N S 20 (8 * a + k)) + i) ≤ bnd S dd (N S 20 (8 * a + k))) ∧
      ∀ x, x < 8 → cI (S 22 (N S 20 (8 * a + k))) (nI x) → nv x < N S 3 x) (hlt : costN S nv a np cc < 1048576) : costN S nv a np cc ≤ bnd S dd a := by
  have h1 := bd_mono (s1_bd ha hv h4 h8 h12 hp np (Nat.le_refl _)) (show 999 * (np + 1) ≤ 12987 by omega)
  have h2 := s2_bd (S := S) (nv := nv) (a := a) (cc := cc) (Bc := fun k => 12987 * (pm S (N S 20 (8 * a + k)) - dd (N S 20 (8 * a + k)))) h1 (fun k hk => by
    obtain ⟨q1, q2, q3⟩ := ht k hk
    refine bd_of (q2 _ ?_)
    rw [q1]
    exact plR_lt 8 q3) cc (Nat.le_refl _)
  rw [sumB_mul (f := fun k => pm S (N S 20 (8 * a + k)) - dd (N S 20 (8 * a + k)))] at h2
  have e : sumB (fun k => pm S (N S 20 (8 * a + k)) - dd (N S 20 (8 * a + k))) cc = csm S dd a := by rw [hcc]
  rw [e] at h2
  have hlt' : (if s2N S nv a np cc ≤ 1048576 then s2N S nv a np cc else 1048576) < 1048576 := hlt
  show (if s2N S nv a np cc ≤ 1048576 then s2N S nv a np cc else 1048576) ≤ _
  have h3 : bd (s2N S nv a np cc) (12987 + 12987 * csm S dd a) := h2
  have h4 : s2N S nv a np cc < 1048576 := by
    by_cases q : s2N S nv a np cc ≤ 1048576
    · rw [if_pos q] at hlt'; exact hlt'
    · rw [if_neg q] at hlt'; omega
  rw [if_pos (by omega)]
  have h5 := h3.resolve_right (by omega)
  have h6 : 1 + csm S dd a ≤ pm S a - dd a := by omega
  have h7 : 12987 * (1 + csm S dd a) ≤ 12987 * (pm S a - dd a) := Nat.mul_le_mul_left _ h6
  have h8 : 12987 * (1 + csm S dd a) = 12987 + 12987 * csm S dd a := by rw [Nat.mul_add]
  show _ ≤ 12987 * (pm S a - dd a)
  omega
theorem mkS_row {a np cc z w j : Nat} {r : Int32} (h23 : j ≠ 23) (h24 : j ≠ 24) (h25 : j ≠ 25) (h26 : j ≠ 26) (h27 : j ≠ 27) (h32 : j ≠ 32) (h33 : j ≠ 33) : mkS S a r np cc z w j = S j := funext fun _ => mkS_lo h23 h24 h25 h26 h27 h32 h33
theorem IX_make {a cc z w : Nat} {r : Int32} (hI : IX S n np A dd hh a) (h8 : n ≤ 8) (ha : a < n) (hr : r = nI (vR S a)) (hR : vR S a < 2 ^ 31) (hcc : cc = N S 21 a) (hz : z = N S 3 a) (hw : w = wd S a) (hw2 : w ≤ 256)
    (ht : vth S n a) (hch : ∀ c, vch S n a c → 0 < vtq S n c) (hlt : vtr S n a < vR S a) (hu : 2 ≤ vR S a → ∀ x y, vpa S n x y → vsp S x a → vtq S n x = vtr S n x) (hA : ∀ x, A x a → vtr S n x < vR S a)
    (hbd : ∀ i, i < w → tabN S a np cc z i < 1048576 → tabN S a np cc z i ≤ bnd S dd a) :
    IS (mkS S a r np cc z w) n np A dd hh := by
  obtain ⟨D, E, NIh, TIh, KIh, PIh⟩ := hI
  have e3 : (mkS S a r np cc z w) 3 = S 3 := mkS_row (by decide) (by decide) (by decide) (by decide) (by decide) (by decide) (by decide)
  have e4 : (mkS S a r np cc z w) 4 = S 4 := mkS_row (by decide) (by decide) (by decide) (by decide) (by decide) (by decide) (by decide)
  have e6 : (mkS S a r np cc z w) 6 = S 6 := mkS_row (by decide) (by decide) (by decide) (by decide) (by decide) (by decide) (by decide)
  have e7 : (mkS S a r np cc z w) 7 = S 7 := mkS_row (by decide) (by decide) (by decide) (by decide) (by decide) (by decide) (by decide)
  have e8 : (mkS S a r np cc z w) 8 = S 8 := mkS_row (by decide) (by decide) (by decide) (by decide) (by decide) (by decide) (by decide)
  have e9 : (mkS S a r np cc z w) 9 = S 9 := mkS_row (by decide) (by decide) (by decide) (by decide) (by decide) (by decide) (by decide)
  have e10 : (mkS S a r np cc z w) 10 = S 10 := mkS_row (by decide) (by decide) (by decide) (by decide) (by decide) (by decide) (by decide)
  have e11 : (mkS S a r np cc z w) 11 = S 11 := mkS_row (by decide) (by decide) (by decide) (by decide) (by decide) (by decide) (by decide)
  have e12 : (mkS S a r np cc z w) 12 = S 12 := mkS_row (by decide) (by decide) (by decide) (by decide) (by decide) (by decide) (by decide)
  have e13 : (mkS S a r np cc z w) 13 = S 13 := mkS_row (by decide) (by decide) (by decide) (by decide) (by decide) (by decide) (by decide)
  have e14 : (mkS S a r np cc z w) 14 = S 14 := mkS_row (by decide) (by decide) (by decide) (by decide) (by decide) (by decide) (by decide)
  have e16 : (mkS S a r np cc z w) 16 = S 16 := mkS_row (by decide) (by decide) (by decide) (by decide) (by decide) (by decide) (by decide)
  have e17 : (mkS S a r np cc z w) 17 = S 17 := mkS_row (by decide) (by decide) (by decide) (by decide) (by decide) (by decide) (by decide)
  have e18 : (mkS S a r np cc z w) 18 = S 18 := mkS_row (by decide) (by decide) (by decide) (by decide) (by decide) (by decide) (by decide)
  have e19 : (mkS S a r np cc z w) 19 = S 19 := mkS_row (by decide) (by decide) (by decide) (by decide) (by decide) (by decide) (by decide)
  have e20 : (mkS S a r np cc z w) 20 = S 20 := mkS_row (by decide) (by decide) (by decide) (by decide) (by decide) (by decide) (by decide)
  have e21 : (mkS S a r np cc z w) 21 = S 21 := mkS_row (by decide) (by decide) (by decide) (by decide) (by decide) (by decide) (by decide)
  have e22 : (mkS S a r np cc z w) 22 = S 22 := mkS_row (by decide) (by decide) (by decide) (by decide) (by decide) (by decide) (by decide)
  have e28 : (mkS S a r np cc z w) 28 = S 28 := mkS_row (by decide) (by decide) (by decide) (by decide) (by decide) (by decide) (by decide)
  have e29 : (mkS S a r np cc z w) 29 = S 29 := mkS_row (by decide) (by decide) (by decide) (by decide) (by decide) (by decide) (by decide)
  have e30 : (mkS S a r np cc z w) 30 = S 30 := mkS_row (by decide) (by decide) (by decide) (by decide) (by decide) (by decide) (by decide)
  have e31 : (mkS S a r np cc z w) 31 = S 31 := mkS_row (by decide) (by decide) (by decide) (by decide) (by decide) (by decide) (by decide)
  have x_vsp : vsp (mkS S a r np cc z w) = vsp S := by unfold vsp; simp only [N, e10]
  have x_vrt : vrt (mkS S a r np cc z w) n = vrt S n := by unfold vrt; simp only [N, e10, e11]
  have x_vnb : vnb (mkS S a r np cc z w) n = vnb S n := by unfold vnb; simp only [N, e9]
  have x_vms : vms (mkS S a r np cc z w) n = vms S n := by unfold vms; simp only [N, e18]
  have x_vch : vch (mkS S a r np cc z w) n = vch S n := by unfold vch; simp only [N, e20, e21]
  have x_vwt : vwt (mkS S a r np cc z w) n = vwt S n := by unfold vwt; simp only [N, e19]
  have x_vpa : vpa (mkS S a r np cc z w) n = vpa S n := by unfold vpa; simp only [N, e16]
  have x_vhd : vhd (mkS S a r np cc z w) n = vhd S n := by unfold vhd; simp only [N, e13]
  have x_vth : vth (mkS S a r np cc z w) n = vth S n := by unfold vth; simp only [N, e14]
  have x_van : van (mkS S a r np cc z w) n = van S n := by unfold van; simp only [N, e17]
  have x_vse : vse (mkS S a r np cc z w) n = vse S n := by unfold vse; simp only [N, e22]
  have x_vR : vR (mkS S a r np cc z w) = vR S := by unfold vR; simp only [N, e10, e12]
  have x_vst : vst (mkS S a r np cc z w) n = vst S n := by unfold vst; simp only [N, e28]
  have x_vnr : vnr (mkS S a r np cc z w) n = vnr S n := by unfold vnr; simp only [N, e29]
  have a8 : a < 8 := by omega
  have f23 : ∀ x, (mkS S a r np cc z w) 23 x = if x = a then r else S 23 x := fun x => by simp [mkS, mkT, mk1, mkC, rsR, mu]
  have f24 : ∀ x, (mkS S a r np cc z w) 24 x = if x = a then S 22 a else S 24 x := fun x => by simp [mkS, mkT, mk1, mkC, rsR, mu]
  have f25 : ∀ x, (mkS S a r np cc z w) 25 x = if x = a then nI w else S 25 x := fun x => by simp [mkS, mkT, mk1, mkC, rsR, mu]
  have f26 : ∀ x, (mkS S a r np cc z w) 26 x = if 256 * a ≤ x ∧ x < 256 * a + w then nI (tabN S a np cc z (x - 256 * a)) else S 26 x := fun x => mkS_26
  have y1 : ∀ x, vtr (mkS S a r np cc z w) n x = if x = a then vR S a else vtr S n x := fun x => by
    show (if x < n then ((mkS S a r np cc z w) 23 x).toNatClampNeg else 0) = _
    rw [f23]; by_cases q : x = a
    · rw [if_pos q, if_pos q, q, if_pos ha, hr, nI_clamp hR]
    · rw [if_neg q, if_neg q]; rfl
  have y2 : vtq (mkS S a r np cc z w) n = vtq S n := by
    funext x; show (if x < n then ((mkS S a r np cc z w) 23 (8 + x)).toNatClampNeg else 0) = _
    have : (mkS S a r np cc z w) 23 (8 + x) = S 23 (8 + x) := by rw [f23, if_neg (by omega)]
    rw [this]; rfl
  have E' := RI_make D E ht hch ha hlt hu hA y1
  have sN : ∀ nv x cc', s2N (mkS S a r np cc z w) nv x np cc' = s2N S nv x np cc' := fun nv x cc' => by
    simp only [s2N, s1N, e3, e4, e6, e7, e8, e17, e20]
    exact s2R_c (fun t ht => by rw [f24, if_neg (by omega)]) (fun i hi => by rw [f26, if_neg (by omega)]) _
  have cN : ∀ nv x cc', costN (mkS S a r np cc z w) nv x np cc' = costN S nv x np cc' := fun nv x cc' => by
    show (if s2N (mkS S a r np cc z w) nv x np cc' ≤ 1048576 then s2N (mkS S a r np cc z w) nv x np cc' else 1048576) = _
    rw [sN]
  have tN : ∀ x cc' z' i, tabN (mkS S a r np cc z w) x np cc' z' i = tabN S x np cc' z' i := fun x cc' z' i => by simp only [tabN, cN, e3, e22]
  have kN : ∀ x, kv (mkS S a r np cc z w) x = kv S x := fun x => by funext b; simp only [kv, N, e31]
  refine ⟨?_, ?_, ?_, ⟨?_, ?_⟩, ?_, ?_⟩
  · unfold vDI; rw [x_vsp, x_vrt, x_vnb, x_vms, x_vch, x_vwt, x_vpa, x_vhd, x_vth, x_van, x_vse]; exact D
  · unfold vRI; rw [x_vsp, x_vrt, x_vch, x_vpa, x_vhd, x_vth, x_vR, y2, x_vst, x_vnr]; exact E'
  · have : NI (mkS S a r np cc z w) n dd = NI S n dd := by simp only [NI, csm, pm, N, x_vhd, x_vwt, e18, e20, e21]
    rw [this]; exact NIh
  · intro x q
    by_cases hx : x = a
    · rw [hx]
      have wde0 : wd (mkS S a r np cc z w) a = wd S a := by simp only [wd, unN, e3, e22]
      have wde : wd (mkS S a r np cc z w) a = w := wde0.trans hw.symm
      rw [wde]
      refine ⟨by rw [f24, if_pos rfl, e22], by rw [f25, if_pos rfl], hw2, fun i hi => ?_⟩
      have c26 : (mkS S a r np cc z w) 26 (256 * a + i) = nI (tabN S a np cc z i) := by
        rw [f26, if_pos ⟨by omega, by omega⟩, show 256 * a + i - 256 * a = i by omega]
      have t4 : tabN S a np cc z i ≤ 1048576 := blR_le _ _
      refine ⟨?_, ?_⟩
      · rw [c26, tN]
        simp only [N, e21, e3]
        rw [hcc, hz]
      · show ((mkS S a r np cc z w) 26 (256 * a + i)).toNatClampNeg < _ → ((mkS S a r np cc z w) 26 (256 * a + i)).toNatClampNeg ≤ _
        rw [c26, nI_clamp (by omega)]
        simp only [bnd, pm, e18]
        exact hbd i hi
    · rw [y1, if_neg hx] at q
      have z0 := TIh.1 x hx q
      have c26 : ∀ i, i < wd S x → (mkS S a r np cc z w) 26 (256 * x + i) = S 26 (256 * x + i) := fun i hi => by
        have := z0.2.2.1
        rw [f26, if_neg (by omega)]
      have wde : wd (mkS S a r np cc z w) x = wd S x := by simp only [wd, unN, e3, e22]
      rw [wde]
      refine ⟨by rw [f24, if_neg hx, e22]; exact z0.1, by rw [f25, if_neg hx]; exact z0.2.1, z0.2.2.1, fun i hi => ?_⟩
      have z4 := z0.2.2.2 i hi
      simp only [N]
      rw [c26 i hi, tN]
      simp only [N, bnd, pm, e21, e3, e18] at z4 ⊢
      exact z4
  · intro b q
    rw [y2] at q
    have z0 := TIh.2 b q
    have hbn : b < n := by
      rcases Nat.lt_or_ge b n with z | z
      · exact z
      · unfold vtq at q; rw [if_neg (by omega)] at q; omega
    have wde : wd (mkS S a r np cc z w) b = wd S b := by simp only [wd, unN, e3, e22]
    have c26 : ∀ i, (mkS S a r np cc z w) 26 (256 * (8 + b) + i) = S 26 (256 * (8 + b) + i) := fun i => by rw [f26, if_neg (by omega)]
    rw [wde, f24, if_neg (by omega), f25, if_neg (by omega), e22, y2]
    refine ⟨z0.1, z0.2.1, fun i hi => ?_, fun q1 i hi => ?_⟩
    · simp only [N, bnd, pm, e18]; rw [c26]; exact z0.2.2.1 i hi
    · rw [c26]
      by_cases hx : b = a
      · exfalso
        rw [y1, if_pos hx] at q1
        have := E.1.2.2.1 b
        rw [hx] at q1 this; omega
      · rw [y1, if_neg hx] at q1
        have wb : wd S b ≤ 256 := (TIh.1 b hx (by rw [← q1]; exact q)).2.2.1
        rw [f26, if_neg (by omega)]; exact z0.2.2.2 q1 i hi
  · have : KI (mkS S a r np cc z w) n np A = KI S n np A := by simp only [KI, rowK, N, kN, cN, x_vst, x_vR, x_vpa, e3, e21, e30, e31]
    rw [this]; exact KIh
  · have : PI (mkS S a r np cc z w) n = PI S n := by simp only [PI, x_vrt, x_vnb, x_vsp, e10, e11]
    rw [this]; exact PIh
theorem IS_none {a : Nat} {y : Int32} (hy : y = nI (vR S a)) (hI : IS S n np A dd hh) (ha : a < n) (hR : vR S a < 2 ^ 31) (h1 : vtr S n a = vR S a) (h2 : vst S n a ≠ vR S a) : IS (mu S 29 a y) n np A dd hh := by
  obtain ⟨D, E, NIh, TIh, KIh, PIh⟩ := hI
  have e3 : (mu S 29 a y) 3 = S 3 := by funext i; simp [mu]
  have e4 : (mu S 29 a y) 4 = S 4 := by funext i; simp [mu]
  have e6 : (mu S 29 a y) 6 = S 6 := by funext i; simp [mu]
  have e7 : (mu S 29 a y) 7 = S 7 := by funext i; simp [mu]
  have e8 : (mu S 29 a y) 8 = S 8 := by funext i; simp [mu]
  have e9 : (mu S 29 a y) 9 = S 9 := by funext i; simp [mu]
  have e10 : (mu S 29 a y) 10 = S 10 := by funext i; simp [mu]
  have e11 : (mu S 29 a y) 11 = S 11 := by funext i; simp [mu]
  have e12 : (mu S 29 a y) 12 = S 12 := by funext i; simp [mu]
  have e13 : (mu S 29 a y) 13 = S 13 := by funext i; simp [mu]
  have e14 : (mu S 29 a y) 14 = S 14 := by funext i; simp [mu]
  have e16 : (mu S 29 a y) 16 = S 16 := by funext i; simp [mu]
  have e17 : (mu S 29 a y) 17 = S 17 := by funext i; simp [mu]
  have e18 : (mu S 29 a y) 18 = S 18 := by funext i; simp [mu]
  have e19 : (mu S 29 a y) 19 = S 19 := by funext i; simp [mu]
  have e20 : (mu S 29 a y) 20 = S 20 := by funext i; simp [mu]
  have e21 : (mu S 29 a y) 21 = S 21 := by funext i; simp [mu]
  have e22 : (mu S 29 a y) 22 = S 22 := by funext i; simp [mu]
  have e23 : (mu S 29 a y) 23 = S 23 := by funext i; simp [mu]
  have e24 : (mu S 29 a y) 24 = S 24 := by funext i; simp [mu]
  have e25 : (mu S 29 a y) 25 = S 25 := by funext i; simp [mu]
  have e26 : (mu S 29 a y) 26 = S 26 := by funext i; simp [mu]
  have e28 : (mu S 29 a y) 28 = S 28 := by funext i; simp [mu]
  have e30 : (mu S 29 a y) 30 = S 30 := by funext i; simp [mu]
  have e31 : (mu S 29 a y) 31 = S 31 := by funext i; simp [mu]
  have x_vsp : vsp (mu S 29 a y) = vsp S := by unfold vsp; simp only [N, e10]
  have x_vrt : vrt (mu S 29 a y) n = vrt S n := by unfold vrt; simp only [N, e10, e11]
  have x_vnb : vnb (mu S 29 a y) n = vnb S n := by unfold vnb; simp only [N, e9]
  have x_vms : vms (mu S 29 a y) n = vms S n := by unfold vms; simp only [N, e18]
  have x_vch : vch (mu S 29 a y) n = vch S n := by unfold vch; simp only [N, e20, e21]
  have x_vwt : vwt (mu S 29 a y) n = vwt S n := by unfold vwt; simp only [N, e19]
  have x_vpa : vpa (mu S 29 a y) n = vpa S n := by unfold vpa; simp only [N, e16]
  have x_vhd : vhd (mu S 29 a y) n = vhd S n := by unfold vhd; simp only [N, e13]
  have x_vth : vth (mu S 29 a y) n = vth S n := by unfold vth; simp only [N, e14]
  have x_van : van (mu S 29 a y) n = van S n := by unfold van; simp only [N, e17]
  have x_vse : vse (mu S 29 a y) n = vse S n := by unfold vse; simp only [N, e22]
  have x_vR : vR (mu S 29 a y) = vR S := by unfold vR; simp only [N, e10, e12]
  have x_vtr : vtr (mu S 29 a y) n = vtr S n := by unfold vtr; simp only [N, e23]
  have x_vtq : vtq (mu S 29 a y) n = vtq S n := by unfold vtq; simp only [N, e23]
  have x_vst : vst (mu S 29 a y) n = vst S n := by unfold vst; simp only [N, e28]
  have sN : ∀ nv x cc, s2N (mu S 29 a y) nv x np cc = s2N S nv x np cc := fun nv x cc => by simp only [s2N, s1N, e3, e4, e6, e7, e8, e17, e20, e24, e26]
  have cN : ∀ nv x cc, costN (mu S 29 a y) nv x np cc = costN S nv x np cc := fun nv x cc => by
    show (if s2N (mu S 29 a y) nv x np cc ≤ 1048576 then s2N (mu S 29 a y) nv x np cc else 1048576) = _
    rw [sN]
  have kN : ∀ x, kv (mu S 29 a y) x = kv S x := fun x => by funext b; simp only [kv, N, e31]
  have tN : ∀ x cc z i, tabN (mu S 29 a y) x np cc z i = tabN S x np cc z i := fun x cc z i => by simp only [tabN, cN, e3, e22]
  have TIe : TI (mu S 29 a y) n np dd = TI S n np dd := by simp only [TI, N, pm, wd, bnd, unN, tN, x_vtr, x_vtq, e3, e18, e20, e21, e22, e24, e25, e26]
  have KIe : KI (mu S 29 a y) n np A = KI S n np A := by simp only [KI, rowK, N, kN, cN, x_vst, x_vR, x_vpa, e3, e21, e30, e31]
  have PIe : PI (mu S 29 a y) n = PI S n := by simp only [PI, x_vrt, x_vnb, x_vsp, e10, e11]
  have y1 : ∀ x, vnr (mu S 29 a y) n x = if x = a then vR S a else vnr S n x := fun x => by
    show (if x < n then ((mu S 29 a y) 29 x).toNatClampNeg else 0) = _
    have e29 : (mu S 29 a y) 29 x = if x = a then nI (vR S a) else S 29 x := by rw [← hy]; simp [mu]
    rw [e29]; by_cases q : x = a
    · rw [if_pos q, if_pos q, q, if_pos ha, nI_clamp hR]
    · rw [if_neg q, if_neg q]; rfl
  refine ⟨?_, ?_, ?_, ?_, ?_, ?_⟩
  · unfold vDI; rw [x_vsp, x_vrt, x_vnb, x_vms, x_vch, x_vwt, x_vpa, x_vhd, x_vth, x_van, x_vse]; exact D
  · unfold vRI; rw [x_vsp, x_vrt, x_vch, x_vpa, x_vhd, x_vth, x_vR, x_vtr, x_vtq, x_vst]; exact RI_none D E h1 h2 y1
  · have : NI (mu S 29 a y) n dd = NI S n dd := by simp only [NI, csm, pm, N, x_vhd, x_vwt, e18, e20, e21]
    rw [this]; exact NIh
  · rw [TIe]; exact TIh
  · rw [KIe]; exact KIh
  · rw [PIe]; exact PIh
end
