/-! SIMULATION Q2. Laid by wip/whole/gen/p71.py -/
def PRE (S : mS) (n np nl : Nat) (sz : Nat → Nat → Nat) : Prop := nl = 0 ∧ (∀ j, 10 ≤ j → j ≠ 34 → S j = mS0 j) ∧ (∀ a, n ≤ a → S 9 a = 0) ∧ (∀ i, 4 * n ≤ i → S 4 i = 0) ∧ (∀ i, 16 * np ≤ i → S 8 i = 0) ∧ (∀ a, sz 4 a = 0) ∧ ∀ p, sz 5 p ≠ 1
def RUN (S : mS) (n np nl : Nat) (sz : Nat → Nat → Nat) : Prop := ∃ A dd, IS S n np A dd (fun _ => False) ∧ (∀ k, k < nl → LVk S n k) ∧ CD S n ∧ Z5 S n sz
def INV (S C : mS) (n np nl T : Nat) (sz : Nat → Nat → Nat) : Prop := BI S n np nl T ∧ SIM S C n np nl sz 8 ∧ ((S 2 0 = 0 ∧ PRE S n np nl sz) ∨ (S 2 0 = 1 ∧ RUN S n np nl sz))
section
variable {S C : mS} {n np nl T : Nat} {sz : Nat → Nat → Nat}
theorem le_pred {x : Int32} {k : Nat} (hk : k ≤ 20) (h0 : 0 ≤ x) : x ≤ nI k - 1 ↔ x < nI k := by
  have e : (nI k - 1).toInt = (k : Int) - 1 := by
    rcases Nat.eq_zero_or_pos k with q | q
    · subst q; decide
    · obtain ⟨j, rfl⟩ : ∃ j, k = j + 1 := ⟨k - 1, by omega⟩
      rw [nI_pred, nI_toInt (by omega)]; omega
  rw [Int32.le_iff_toInt_le, Int32.lt_iff_toInt_lt, e, nI_toInt (by omega)]
  omega
theorem ag_same (hA : C 1 0 = nI n) (hS : S 1 0 = nI n) (h8 : n ≤ 8) (a : Int32) : isAgC C a ↔ isAgentS S a := by
  unfold isAgC isAgentS
  rw [hA, hS]
  exact ⟨fun q => ⟨q.1, (le_pred (by omega) q.1).mpr q.2⟩, fun q => ⟨q.1, (le_pred (by omega) q.1).mp q.2⟩⟩
theorem ag_k (hS : S 1 0 = nI n) (h8 : n ≤ 8) {a : Int32} (h : isAgentS S a) : ∃ k, k < n ∧ a = nI k := by
  have h2 := h.2
  rw [hS, le_pred (by omega) h.1] at h2
  rcases pk_ix a (n := n) (by omega) with q | q | q
  · exact absurd h.1 (Int32.not_le.mpr q)
  · exact absurd h2 (Int32.not_lt.mpr q)
  · exact q
theorem ccR_c {f g : Nat → Int32} : ∀ k, (∀ i, i < k → (f i = -1 ↔ g i = -1)) → ccR f k = ccR g k
  | 0, _ => rfl
  | k + 1, h => by
    have q := h k (by omega)
    rw [ccR, ccR, ccR_c k (fun i hi => h i (by omega))]
    by_cases e : f k = -1
    · rw [if_pos e, if_pos (q.mp e)]
    · rw [if_neg e, if_neg (fun z => e (q.mpr z))]
theorem ccR_all {f : Nat → Int32} : ∀ k, (∀ i, i < k → f i ≠ -1) → ccR f k = k
  | 0, _ => rfl
  | k + 1, h => by rw [ccR, if_neg (h k (by omega)), ccR_all k (fun i hi => h i (by omega))]
theorem un_ne {x : Int32} (h : x = nI x.toNatClampNeg) (h2 : x.toNatClampNeg ≤ 1048576) : un x ≠ -1 := by
  unfold un
  split
  · decide
  · rw [h]; exact fun e => absurd (show nI x.toNatClampNeg < 0 by rw [e]; decide) (nI_pos (by omega))
theorem told_eq (hC : C 34 0 = nI nl) (hS : S 34 0 = nI nl) (h20 : nl ≤ 20) (hL : mL S C nl) (hV : ∀ k, k < nl → LVk S n k) (k x : Int32) : toldC C k x = toldF S nl k x := by
  unfold toldC toldF
  by_cases hk : 0 ≤ k ∧ k < nI nl
  · have hk' : 0 ≤ k ∧ k ≤ S 34 0 - 1 := by rw [hS]; exact ⟨hk.1, (le_pred h20 hk.1).mpr hk.2⟩
    rw [if_neg (not_not_intro (show isLtC C k by unfold isLtC; rw [hC]; exact hk)), if_neg (not_not_intro hk')]
    obtain ⟨j, hj, rfl⟩ : ∃ j, j < nl ∧ k = nI j := by
      rcases pk_ix k (n := nl) (by omega) with q | q | q
      · exact absurd hk.1 (Int32.not_le.mpr q)
      · exact absurd hk.2 (Int32.not_lt.mpr q)
      · exact q
    rw [nI_clamp (by omega)]
    obtain ⟨l1, l2, l3, l4, l5, l6, l7⟩ := hL j hj
    rw [l1, l2, l3, l4]
    by_cases x0 : x = 0
    · rw [if_pos x0, if_pos x0]
    rw [if_neg x0, if_neg x0]
    by_cases x1 : x = 1
    · rw [if_pos x1, if_pos x1]
    rw [if_neg x1, if_neg x1]
    by_cases x2 : x = 2
    · rw [if_pos x2, if_pos x2]
    rw [if_neg x2, if_neg x2]
    by_cases x3 : x = 3
    · rw [if_pos x3, if_pos x3]
    rw [if_neg x3, if_neg x3]
    have hm1 : ∀ w, w < 2 ^ 31 → nI w ≠ -1 := fun w hw e => absurd (show nI w < 0 by rw [e]; decide) (nI_pos hw)
    obtain ⟨f, t, -, -, -, -, hv⟩ := hV j hj
    have kinds : (S 35 j = 0 ∧ S 39 j = 0) ∨ (S 35 j = 1 ∧ S 39 j = 0) ∨ (S 35 j = 2 ∧ ∃ w, w ≤ 256 ∧ S 39 j = nI w ∧ ∀ i, i < w → S 41 (256 * j + i) = nI (S 41 (256 * j + i)).toNatClampNeg ∧ (S 41 (256 * j + i)).toNatClampNeg ≤ 1048576) ∨ (S 35 j = 3 ∧ S 39 j = nI (ccR (fun i => S 41 (256 * j + i)) 8)) := by
      rcases hv with ⟨k1, k2, -⟩ | ⟨k1, k2, -⟩ | ⟨k1, -, -, -, k2, k3, k4, -⟩ | ⟨k1, -, -, k2, -⟩
      · exact Or.inl ⟨k1, k2⟩
      · exact Or.inr (Or.inl ⟨k1, k2⟩)
      · exact Or.inr (Or.inr (Or.inl ⟨k1, _, k3, k2, k4⟩))
      · exact Or.inr (Or.inr (Or.inr ⟨k1, k2⟩))
    have x10 : ∀ {w : Nat}, w ≤ 256 → ¬ x < 10 → (x - 10 < nI w) → ∃ i, i < w ∧ x = nI (i + 10) ∧ x - 10 = nI i := fun {w} hw q1 q2 => by
      obtain ⟨z, hz, rfl⟩ := nI_of (x := x) (fun q => q1 (Int32.lt_trans q (by decide)))
      have hz10 : 10 ≤ z := by
        rcases Nat.lt_or_ge z 10 with y | y
        · exact absurd (nI_lt (b := 10) y (by omega)) q1
        · exact y
      have e : nI z - 10 = nI (z - 10) := pk_sub hz10
      rw [e] at q2
      refine ⟨z - 10, ?_, by rw [show z - 10 + 10 = z by omega], e⟩
      rcases Nat.lt_or_ge (z - 10) w with y | y
      · exact y
      · exact absurd q2 (nI_nlt y (by omega))
    have c67a : S 35 j = 0 → C 67 j = -1 := fun q => by rw [l5, q]; rfl
    have c67b : S 35 j = 1 → C 67 j = -1 := fun q => by rw [l5, q]; rfl
    have c67c : S 35 j = 2 → C 67 j = S 39 j := fun q => by rw [l5, q]; rfl
    have c67d : S 35 j = 3 → C 67 j = 8 := fun q => by rw [l5, q]; rfl
    by_cases x4 : x = 4
    · rw [if_pos x4, if_pos x4]
      rcases kinds with ⟨k1, k2⟩ | ⟨k1, k2⟩ | ⟨k1, w, k2, k3, k4⟩ | ⟨k1, k2⟩
      · rw [c67a k1, if_pos rfl, k2]
      · rw [c67b k1, if_pos rfl, k2]
      · rw [c67c k1, k3, if_neg (hm1 w (by omega)), nI_clamp (by omega)]
        rw [ccR_all w (fun i hi => by
          show C 68 (256 * j + i) ≠ -1
          rw [l6 k1 i (by show i < (S 39 j).toNatClampNeg; rw [N_nI k3 (by omega)]; exact hi)]
          exact un_ne (k4 i hi).1 (k4 i hi).2)]
      · rw [c67d k1, if_neg (by decide), k2]
        refine congrArg nI ?_
        show ccR _ 8 = ccR _ 8
        exact ccR_c 8 (fun i hi => by rw [l7 k1 i hi])
    rw [if_neg x4, if_neg x4]
    unfold entF
    by_cases x10' : x < 10
    · rw [if_pos x10', if_pos (Or.inl x10')]
    rw [if_neg x10']
    rcases kinds with ⟨k1, k2⟩ | ⟨k1, k2⟩ | ⟨k1, w, k2, k3, k4⟩ | ⟨k1, k2⟩
    · rw [c67a k1, if_neg (fun q => q.1 rfl), if_pos (Or.inr (by rw [k1]; decide))]
    · rw [c67b k1, if_neg (fun q => q.1 rfl), if_pos (Or.inr (by rw [k1]; decide))]
    · have nE : ¬ (x < 10 ∨ ¬ 2 ≤ S 35 j) := fun q => q.elim x10' (fun z => z (by rw [k1]; decide))
      have n3 : ¬ S 35 j = 3 := by rw [k1]; decide
      rw [c67c k1, k3, if_neg nE, if_neg n3]
      by_cases q : x - 10 < nI w
      · rw [if_pos ⟨hm1 w (by omega), q⟩, if_neg (not_not_intro q)]
        obtain ⟨i, hi, rfl, e⟩ := x10 k2 x10' q
        rw [e, nI_clamp (by omega), nI_clamp (by omega), l6 k1 i (by show i < (S 39 j).toNatClampNeg; rw [N_nI k3 (by omega)]; exact hi), show 256 * j + (i + 10) - 10 = 256 * j + i by omega]
        rfl
      · rw [if_neg (fun z => q z.2), if_pos q]
    · have nE : ¬ (x < 10 ∨ ¬ 2 ≤ S 35 j) := fun q => q.elim x10' (fun z => z (by rw [k1]; decide))
      rw [c67d k1, if_neg nE, if_pos k1]
      by_cases q : x - 10 < 8
      · rw [if_pos ⟨by decide, q⟩]
        obtain ⟨i, hi, rfl, e⟩ := x10 (w := 8) (by omega) x10' q
        rw [if_neg (show ¬ 18 ≤ nI (i + 10) from nI_ge (b := 18) (by omega) (by omega)), e, nI_clamp (by omega), nI_clamp (by omega), l7 k1 i hi, show 256 * j + (i + 10) - 10 = 256 * j + i by omega]
      · rw [if_neg (fun z => q z.2)]
        have : 18 ≤ x := by
          obtain ⟨z, hz, rfl⟩ := nI_of (x := x) (fun q => x10' (Int32.lt_trans q (by decide)))
          rcases Nat.lt_or_ge z 18 with y | y
          · exfalso
            have hz10 : 10 ≤ z := by
              rcases Nat.lt_or_ge z 10 with y | y
              · exact absurd (nI_lt (b := 10) y (by omega)) x10'
              · exact y
            have e : nI z - 10 = nI (z - 10) := pk_sub hz10
            rw [e] at q
            exact q (nI_lt (b := 8) (by omega) (by omega))
          · exact nI_le (a := 18) y hz
        rw [if_pos this]
  · have hk' : ¬ (0 ≤ k ∧ k ≤ S 34 0 - 1) := by rw [hS]; exact fun q => hk ⟨q.1, (le_pred h20 q.1).mp q.2⟩
    rw [if_pos (show ¬ isLtC C k by unfold isLtC; rw [hC]; exact hk), if_pos hk']
theorem any_c {f g : Nat → Bool} : ∀ k, (∀ i, i < k → f i = g i) → anyB f k = anyB g k
  | 0, _ => rfl
  | k + 1, h => by rw [anyB, anyB, any_c k (fun i hi => h i (by omega)), h k (by omega)]
theorem st_eq (hA : mA1 S C n np nl sz) (hG : mG S C n) (hK : mK S C n) (hQ : mQ S C n sz) (h8 : n ≤ 8) (h2 : S 2 0 = 0 ∨ S 2 0 = 1) (hP : S 2 0 ≠ 0 → PI S n ∧ ∀ a, a < n → S 12 (N S 10 a) ≠ 0) : stC C n = stF S n ∧ (S 2 0 ≠ 0 → ∀ a, a < n → (setC C a ↔ setS S a) ∧ (lostC C a ↔ lostS S a)) := by
  have key : S 2 0 ≠ 0 → ∀ a, a < n → (setC C a ↔ setS S a) ∧ (lostC C a ↔ lostS S a) := fun hs a ha => by
    obtain ⟨q, r, k1, k2, k3, k4, k5⟩ := (hP hs).1.1 a ha
    have z0 := (hP hs).2 a ha
    have g := hG a ha
    have y := hQ.2 q (by omega) (hQ.1 a q ha (by omega) k3)
    have nq : (S 10 a).toNatClampNeg = q := N_nI k3 (by omega)
    have z0' : S 12 q ≠ 0 := by rw [← nq]; exact z0
    unfold setC lostC setS lostS
    rw [g.2.2.1, g.2.2.2.2.2.2.2.2.2, nq, y.2.1, y.2.2, (hK a ha).1]
    refine ⟨⟨fun z => ⟨hs, z.2.2⟩, fun z => ⟨?_, ?_, z.2⟩⟩, Iff.rfl⟩
    · rw [if_neg (fun e => z0' (by rw [← z.2]; exact e))]; decide
    · rw [k3]; exact fun e => absurd (show nI q < 0 by rw [e]; decide) (nI_pos (by omega))
  refine ⟨?_, key⟩
  unfold stC stF
  rw [hA.2.2.2.1]
  rcases h2 with h | h
  · rw [if_pos h, if_pos h, if_pos (by decide)]
  · have hs : S 2 0 ≠ 0 := by rw [h]; decide
    rw [if_neg hs, if_neg hs, if_neg (by decide)]
    rw [any_c (f := wideC C) (g := wideB S) n (fun i hi => by show decide (C 15 i ≠ 0) = decide (S 15 i ≠ 0); rw [(hG i hi).2.2.2.1])]
    rw [any_c (f := openC C) (g := openB S) n (fun i hi => by
      have k := key hs i hi
      show decide (¬ (lostC C i ∨ setC C i)) = decide (¬ setS S i ∧ ¬ lostS S i)
      refine decide_eq_decide.mpr ?_
      rw [k.1, k.2, not_or]; exact And.comm)]
    rw [any_c (f := lostCB C) (g := lostB S) n (fun i hi => by
      have k := key hs i hi
      exact decide_eq_decide.mpr k.2)]
end
