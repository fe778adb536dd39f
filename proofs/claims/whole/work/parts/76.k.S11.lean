/-! SIMULATION S11. Laid by wip/whole/gen/p71.py -/
section
variable {S C : mS} {n np nl T : Nat} {sz : Nat → Nat → Nat} {A : Rl} {dd : Nat → Nat} {hh : Nat → Prop} {hx ex : Nat}
theorem un_re' {x : Int32} {B : Nat} (h : x = nI x.toNatClampNeg) (h1 : x.toNatClampNeg ≤ 1048576) (h2 : x.toNatClampNeg < 1048576 → x.toNatClampNeg ≤ B) : re (un x) x.toNatClampNeg B := by
  have := un_re (m := x.toNatClampNeg) h1 h2
  rwa [← h] at this
theorem wt_m1 (B : BI S n np nl T) (D : vDI S n A hh) {a : Nat} (ha : a < n) (ht : vth S n a) : S 19 a = -1 := by
  have n8 := B.1.2.1
  rcases (B.2.2.2.2.2.2.2.2.2.1 a (by omega)).2.2.2.2.1 with q | ⟨b, q1, q2⟩
  · exact q
  · exact absurd ht (D.1.2.2.2.2.2.1 a b ⟨ha, by omega, q2⟩).2.1
theorem chn_th (B : BI S n np nl T) (D : vDI S n A hh) {a : Nat} (ha : a < n) (ht : vth S n a) : chn S a = N S 21 a := by
  show N S 21 a + (if S 19 a = -1 then 0 else 1) = _
  rw [if_pos (wt_m1 B D ha ht)]; rfl
theorem pr_of (B : BI S n np nl T) (MP : mP S C np) : ∀ p, p < np → prR S C p := fun p hp => by
  obtain ⟨f, g, h1, h2, h3, h4⟩ := bi_fg B p hp
  obtain ⟨m1, m2, m3⟩ := MP p hp f g h1 h2 h3 h4
  refine ⟨f, g, h1, h2, h3, h4, m1, m2, fun v w hv hw => ?_⟩
  have hi : 16 * p + (if f ≤ g then 4 * v + w else 4 * w + v) < 192 := by
    have := B.1.2.2.2.1
    split <;> omega
  have b8 := B.2.2.2.2.2.1 _ hi
  have e := m3 v w hv hw
  rw [e]
  exact un_re' b8.1.1 b8.1.2 b8.2
theorem cs_lt {a : Nat} (hd : dd a + 1 + csm S dd a ≤ pm S a) : 12987 + 12987 * csm S dd a < 1048576 := by
  have := pcN_le (S 18 a) 8
  have h : pm S a ≤ 8 := this
  omega
theorem cost_CS {a : Nat} {nv : Nat → Nat} {g : Nat → Int32} (B : BI S n np nl T) (M : SIM S C n np nl sz hx) (I : IX S n np A dd hh ex) (ha : a < n) (ht : vth S n a) (hch : ∀ c, vch S n a c → 0 < vtq S n c) (hw256 : ∀ c, 0 < vtq S n c → wd S c ≤ 256) (hnv : nvok S n nv)
    (hg : ∀ x, x < n → vse S n a x ∨ x = a → g x = nI (nv x)) : costC C nv g a n np (N S 21 a) = un (nI (costN S nv a np (N S 21 a))) ∧ (costN S nv a np (N S 21 a) < 1048576 → costN S nv a np (N S 21 a) ≤ bnd S dd a) := by
  obtain ⟨D, E, NIh, TXh, KIh, PIh⟩ := I
  have n8 := B.1.2.1
  have hhd := D.1.2.1 a ht
  have hd := NIh.1 a hhd
  have cn := chn_th B D ha ht
  have mc := M.2.2.2.1 a ha
  have kids : ∀ k, k < N S 21 a → ∃ c, c < n ∧ S 20 (8 * a + k) = nI c ∧ vch S n a c := fun k hk => by
    obtain ⟨c, hc, ec⟩ := B.2.2.2.2.2.2.2.2.2.2.1 a k ha hk
    exact ⟨c, hc, ec, ha, by omega, k, hk, ec⟩
  have wdn : ∀ c, c < n → ∀ x, x < 8 → cI (S 22 c) (nI x) → x < n := fun c hc x hx q => D.1.1 _ (D.2.1.2.2.2.2.1 _ _ (D.2.2.2.1.2.1 c x ⟨hc, hx, q⟩)).1
  have tb : ∀ k, k < N S 21 a → tbR S C n a k (N S 20 (8 * a + k)) (12987 * (pm S (N S 20 (8 * a + k)) - dd (N S 20 (8 * a + k)))) := fun k hk => by
    obtain ⟨c, hc, ec, hcc⟩ := kids k hk
    have nc : N S 20 (8 * a + k) = c := N_nI ec (by omega)
    rw [nc]
    have q0 := hch c hcc
    have t := TXh.2 c q0
    have gk := mc.2.2 k (by rw [cn]; exact hk)
    have ed : chd S a k = nI c := by show (if k < N S 21 a then _ else _) = _; rw [if_pos hk, ec]
    rw [ed, nI_clamp (by omega)] at gk
    have n23 : S 23 (8 + c) ≠ 0 := fun e => by
      have : vtq S n c = 0 := by unfold vtq; rw [if_pos hc]; show (S 23 (8 + c)).toNatClampNeg = 0; rw [e]; rfl
      omega
    have wc : wd S c ≤ 256 := hw256 c q0
    refine ⟨hc, ec, gk.1, (M.2.1 c hc).2.2.2.2.2.2.2.1, t.1, wdn c hc, by rw [gk.2.2.1, if_neg n23]; exact t.2.1, wc, fun q hq => ?_⟩
    rw [gk.2.2.2 n23 q (by show q < (S 25 (8 + c)).toNatClampNeg; rw [t.2.1, nI_clamp (by omega)]; exact hq)]
    have hq' : q < wd S c := hq
    have b26 := B.2.2.2.2.2.2.1 (256 * (8 + c) + q) (by omega)
    exact un_re' b26.1 b26.2 (t.2.2.1 q hq)
  have hs : sumB (fun k => 12987 * (pm S (N S 20 (8 * a + k)) - dd (N S 20 (8 * a + k)))) (N S 21 a) = 12987 * csm S dd a := sumB_mul _
  have hB : 12987 + sumB (fun k => 12987 * (pm S (N S 20 (8 * a + k)) - dd (N S 20 (8 * a + k)))) (N S 21 a) < 1048576 := by rw [hs]; exact cs_lt hd
  have hva := hnv a (by omega)
  have ho : re (C 4 (4 * a + nv a)) (N S 4 (4 * a + nv a)) 999 := by
    have b4 := B.2.2.2.2.1 (4 * a + nv a) (by omega)
    have e := M.2.2.2.2.2.2.1 (4 * a + nv a) (by omega)
    rw [e]
    exact un_re' b4.1.1 b4.1.2 b4.2
  have res := cost_eq (S := S) (C := C) (nv := nv) (g := g) (ch := fun k => N S 20 (8 * a + k)) n8 (fun x hx => ⟨(M.2.1 x hx).1, (B.2.1 x (by omega)).1⟩) ho (pr_of B M.2.2.2.2.2.2.2.1) (M.2.1 a ha).2.2.2.2.2.1 (fun b hb => (hnv b hb).1) B.1.2.2.2.1 tb (fun k x hk hx q => by
    obtain ⟨c, hc, ec, hcc⟩ := kids k hk
    have nc : N S 20 (8 * a + k) = c := N_nI ec (by omega)
    rw [nc] at q
    refine ⟨hg x hx ?_, (hnv x (by omega)).2 hx⟩
    exact (D.2.2.2.1.2.2.2 a c x ht hcc ⟨hc, by omega, q⟩).symm) hB
  refine ⟨res.1, fun q => ?_⟩
  have := res.2 q
  rw [hs] at this
  have h6 : 1 + csm S dd a ≤ pm S a - dd a := by omega
  have h7 : 12987 * (1 + csm S dd a) ≤ 12987 * (pm S a - dd a) := Nat.mul_le_mul_left _ h6
  show _ ≤ 12987 * (pm S a - dd a)
  omega
end
