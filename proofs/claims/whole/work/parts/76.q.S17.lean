/-! SIMULATION S17. Laid by wip/whole/gen/p71.py -/
section
variable {S C : mS} {n np nl T : Nat} {sz : Nat → Nat → Nat} {A : Rl} {dd : Nat → Nat} {hh : Nat → Prop} {hx ex : Nat}
/-- where b stands among the children of a -/
theorem kid_ix {a b : Nat} (B : BI S n np nl T) (D : vDI S n A hh) (hpa : vpa S n b a) (ha : a < n) : ∃ k, k < chn S a ∧ chd S a k = nI b := by
  have n8 := B.1.2.1
  rcases (D.1.2.2.2.2.2.2.2 b a hpa).2.2.1 with ⟨z1, z2, k, z3, z4⟩ | z
  · exact ⟨k, by show k < N S 21 a + _; omega, by show (if k < N S 21 a then _ else _) = _; rw [if_pos z3, z4]⟩
  · have : S 19 a ≠ -1 := by rw [z.2.2]; exact nI_m1' (by have := z.2.1; omega)
    refine ⟨N S 21 a, by show N S 21 a < N S 21 a + (if S 19 a = -1 then 0 else 1); rw [if_neg this]; omega, ?_⟩
    show (if N S 21 a < N S 21 a then _ else S 19 a) = _
    rw [if_neg (Nat.lt_irrefl _), z.2.2]
theorem kid_c (B : BI S n np nl T) : ∀ x j, x < n → j < chn S x → ∃ c, c < n ∧ chd S x j = nI c := fun x j hx hj => by
  have n8 := B.1.2.1
  show ∃ c, c < n ∧ (if j < N S 21 x then S 20 (8 * x + j) else S 19 x) = nI c
  by_cases y : j < N S 21 x
  · rw [if_pos y]; exact B.2.2.2.2.2.2.2.2.2.2.1 x j hx y
  · rw [if_neg y]
    have hj' : j < N S 21 x + (if S 19 x = -1 then 0 else 1) := hj
    rcases (B.2.2.2.2.2.2.2.2.2.1 x (by omega)).2.2.2.2.1 with z | z
    · rw [if_pos z] at hj'; omega
    · exact z
theorem kid_rel {x j b : Nat} (D : vDI S n A hh) (B : BI S n np nl T) (hx : x < n) (hb : b < n) (hj : j < chn S x) (e : chd S x j = nI b) : (j < N S 21 x ∧ S 20 (8 * x + j) = nI b ∧ vch S n x b) ∨ (j = N S 21 x ∧ vwt S n x b) := by
  have n8 := B.1.2.1
  have e' : (if j < N S 21 x then S 20 (8 * x + j) else S 19 x) = nI b := e
  have hj' : j < N S 21 x + (if S 19 x = -1 then 0 else 1) := hj
  by_cases y : j < N S 21 x
  · rw [if_pos y] at e'; exact Or.inl ⟨y, e', hx, by omega, j, y, e'⟩
  · rw [if_neg y] at e'
    refine Or.inr ⟨?_, hx, by omega, e'⟩
    split at hj' <;> omega
theorem kid_uq {a b k : Nat} (B : BI S n np nl T) (D : vDI S n A hh) (CDh : CD S n) (ha : a < n) (hb : b < n) (hk : k < chn S a) (ek : chd S a k = nI b) (hhb : vhd S n b) : ∀ x j, x < n → j < chn S x → chd S x j = nI b → x = a ∧ j = k := fun x j hx hj e => by
  have n8 := B.1.2.1
  have r1 := kid_rel D B ha hb hk ek
  have r2 := kid_rel D B hx hb hj e
  have p1 : vpa S n b a := r1.elim (fun z => (D.1.2.2.2.2.1 _ _ z.2.2).1) (fun z => D.1.2.2.2.2.2.2.1 _ _ z.2 hhb)
  have p2 : vpa S n b x := r2.elim (fun z => (D.1.2.2.2.2.1 _ _ z.2.2).1) (fun z => D.1.2.2.2.2.2.2.1 _ _ z.2 hhb)
  have ex : x = a := D.2.2.1.2.1 _ _ _ p2 p1
  subst ex
  refine ⟨rfl, ?_⟩
  rcases r1 with ⟨z1, z2, z3⟩ | ⟨z1, z2⟩
  · rcases r2 with ⟨y1, y2, y3⟩ | ⟨y1, y2⟩
    · rcases Nat.lt_trichotomy j k with q | q | q
      · exact absurd (y2.trans z2.symm) (CDh x j k hx q z1)
      · exact q
      · exact absurd (z2.trans y2.symm) (CDh x k j hx q y1)
    · exact absurd (D.1.2.2.2.2.1 _ _ z3).2.2.1 (D.1.2.2.2.2.2.1 _ _ y2).2.2.1
  · rcases r2 with ⟨y1, y2, y3⟩ | ⟨y1, y2⟩
    · exact absurd (D.1.2.2.2.2.1 _ _ y3).2.2.1 (D.1.2.2.2.2.2.1 _ _ z2).2.2.1
    · omega
theorem w25_of (hI : IS S n np A dd hh) (B : BI S n np nl T) : (∀ c, c < n → S 23 (8 + c) ≠ 0 → N S 25 (8 + c) ≤ 256) ∧ ∀ c, c < n → S 23 c ≠ 0 → N S 25 c ≤ 256 := by
  have n8 := B.1.2.1
  have one : ∀ c, c < n → S 23 c ≠ 0 → 0 < vtr S n c := fun c hc q => by
    unfold vtr; rw [if_pos hc]
    rcases Nat.eq_zero_or_pos (N S 23 c) with z | z
    · exact absurd (by rw [((B.2.2.2.2.2.2.2.2.2.1 c (by omega)).2.2.2.2.2.2.2.2.2.1).1, z]; rfl) q
    · exact z
  have two : ∀ c, c < n → S 23 (8 + c) ≠ 0 → 0 < vtq S n c := fun c hc q => by
    unfold vtq; rw [if_pos hc]
    rcases Nat.eq_zero_or_pos (N S 23 (8 + c)) with z | z
    · exact absurd (by rw [((B.2.2.2.2.2.2.2.2.2.1 c (by omega)).2.2.2.2.2.2.2.2.2.2).1, z]; rfl) q
    · exact z
  refine ⟨fun c hc q => ?_, fun c hc q => ?_⟩
  · have v := two c hc q
    have w := (hI.2.2.2.1.1 c (Nat.lt_of_lt_of_le v (hI.2.1.1.2.2.1 c))).2.2.1
    show (S 25 (8 + c)).toNatClampNeg ≤ 256
    rw [(hI.2.2.2.1.2 c v).2.1, nI_clamp (by omega)]; exact w
  · have w := (hI.2.2.2.1.1 c (one c hc q)).2.2.1
    show (S 25 c).toNatClampNeg ≤ 256
    rw [(hI.2.2.2.1.1 c (one c hc q)).2.1, nI_clamp (by omega)]; exact w
/-- a table comes for the first time in its run -/
theorem dlv_W {a b k : Nat} {m w : Int32} {e : Nat → Int32} (W : WI S C n np nl T sz A dd noH 8 8) (hpa : vpa S n b a) (hk : k < chn S a) (ek : chd S a k = nI b) (hu : vtq S n b < vtr S n b) (hm : m = S 38 20) (hr : S 38 20 = nI (vtr S n b)) (hmk : S 40 20 = S 22 b) (hmy : S 39 20 = nI (wd S b)) (hce : ∀ i, i < wd S b → S 41 (5120 + i) = S 26 (256 * b + i)) (hw : w = S 39 20) (he : ∀ i, i < wd S b → e i = un (S 41 (5120 + i))) :
    WI (tb0 S b) (tt0 C a k m w e) n np nl T sz A dd noH 8 a ∧ (haN (tb0 S b) a (N S 21 a) = true → vth (tb0 S b) n a ∧ (∀ c, vch (tb0 S b) n a c → 0 < vtq (tb0 S b) n c) ∧ (∀ c, 0 < vtq (tb0 S b) n c → wd (tb0 S b) c ≤ 256) ∧ vtr (tb0 S b) n a < vR (tb0 S b) a ∧ (2 ≤ vR (tb0 S b) a → ∀ x y, vpa (tb0 S b) n x y → vsp (tb0 S b) x a → vtq (tb0 S b) n x = vtr (tb0 S b) n x) ∧ (∀ x, A x a → vtr (tb0 S b) n x < vR (tb0 S b) a) ∧ (0 < vtr (tb0 S b) n a → (tb0 S b) 25 a = nI (wd (tb0 S b) a) ∧ wd (tb0 S b) a ≤ 256) ∧ m = nI (vR (tb0 S b) a)) ∧
      (haN (tb0 S b) a (N S 21 a) ≠ true → vtr (tb0 S b) n a = 0) := by
  obtain ⟨w1, B, M, IXh, LVs, CDh, Z5h⟩ := W
  have n8 := B.1.2.1
  have hI := (IX8 n8).mp IXh
  obtain ⟨D, E, NIh, TXh, KIh, PIh⟩ := id IXh
  have p8 := D.1.2.2.2.2.2.2.2 b a hpa
  have ha : a < n := D.1.1 a p8.2.1
  have hb : b < n := hpa.1
  have htb : 0 < vtr S n b := by omega
  have tb := hI.2.2.2.1.1 b htb
  have wb := tb.2.2.1
  have BT := B.2.2.2.2.2.2.2.2.2.2.2
  have trT : vtr S n b ≤ T := Nat.le_trans (E.1.2.2.2.1 b) (vR_le B PIh hb)
  have n39 : N S 39 20 = wd S b := N_nI hmy (by omega)
  have m0 : m ≠ 0 := by rw [hm, hr]; exact nI_ne0 htb (by omega)
  obtain ⟨w25, w25a⟩ := w25_of hI B
  have h7x : ∀ x, x < n → N S 21 x ≤ 7 := fun x hx => (B.2.2.2.2.2.2.2.2.2.1 x (by omega)).2.2.2.2.2.1.2
  have lo : ∀ j, j ≠ 23 → j ≠ 24 → j ≠ 25 → j ≠ 26 → (tb0 S b) j = S j := fun j q1 q2 q3 q4 => by funext i; simp [tb0, cpB, tb1, mu, q1, q2, q3, q4]
  have SM := SIM_dlv (S := S) (C := C) (hx := 8) n8 ha hb hk ek h7x (kid_uq B D CDh ha hb hk ek p8.1) (kid_c B) w25 w25a hm m0 hw (by rw [n39]; exact wb) (fun i hi => he i (by rw [← n39]; exact hi)) M
  have IX2 := IX_dlv hI n8 B.2.1 B.2.2.1 B.2.2.2.2.2.2.2.2.2.2.1 hpa hu hr (by omega) hmk hmy hce
  have hAab : A a b := (D.2.1.1 b a a hpa).mpr (Or.inr rfl)
  have hRab : vR S b = vR S a := E.2.2.2.2.2.2.2.1 _ _ p8.2.2.2.1
  have hRb : vtr S n b = vR S b := E.1.2.2.2.2.2.1 b a hpa hu
  have f23 : ∀ x, (tb0 S b) 23 x = if x = 8 + b then nI (vtr S n b) else S 23 x := fun x => by rw [← hr]; simp [tb0, cpB, tb1, mu]
  have vtr' : vtr (tb0 S b) n = vtr S n := by
    funext x; show (if x < n then ((tb0 S b) 23 x).toNatClampNeg else 0) = (if x < n then (S 23 x).toNatClampNeg else 0)
    by_cases q : x < n
    · rw [if_pos q, if_pos q, f23, if_neg (by omega)]
    · rw [if_neg q, if_neg q]
  have vtq' : ∀ x, vtq (tb0 S b) n x = if x = b then vtr S n b else vtq S n x := fun x => by
    show (if x < n then ((tb0 S b) 23 (8 + x)).toNatClampNeg else 0) = _
    by_cases q : x = b
    · rw [if_pos q, q, if_pos hb, f23, if_pos rfl, nI_clamp (by omega)]
    · rw [if_neg q, f23, if_neg (by omega : ¬ 8 + x = 8 + b)]; rfl
  have vR' : vR (tb0 S b) = vR S := by unfold vR N; rw [lo 10 (by decide) (by decide) (by decide) (by decide), lo 12 (by decide) (by decide) (by decide) (by decide)]
  have vpa' : vpa (tb0 S b) n = vpa S n := by unfold vpa; rw [lo 16 (by decide) (by decide) (by decide) (by decide)]
  have vsp' : vsp (tb0 S b) = vsp S := by unfold vsp; rw [lo 10 (by decide) (by decide) (by decide) (by decide)]
  have vch' : vch (tb0 S b) n = vch S n := by unfold vch N; rw [lo 20 (by decide) (by decide) (by decide) (by decide), lo 21 (by decide) (by decide) (by decide) (by decide)]
  have vth' : vth (tb0 S b) n = vth S n := by unfold vth; rw [lo 14 (by decide) (by decide) (by decide) (by decide)]
  have wd' : ∀ x, wd (tb0 S b) x = wd S x := fun x => by simp only [wd, unN, lo 3 (by decide) (by decide) (by decide) (by decide), lo 22 (by decide) (by decide) (by decide) (by decide)]
  refine ⟨⟨by rw [lo 2 (by decide) (by decide) (by decide) (by decide)]; exact w1, BI_dlv (by omega) trT hr (by rw [n39]; exact wb) (fun i hi => ?_) B, SM, IX2, fun j hj => ?_, CD_r CDh (lo 20 (by decide) (by decide) (by decide) (by decide)) (lo 21 (by decide) (by decide) (by decide) (by decide)), Z5_r Z5h (lo 10 (by decide) (by decide) (by decide) (by decide)) (fun _ => rfl)⟩, fun hha => ?_, fun hha => ?_⟩
  · rw [n39] at hi
    rw [hce i hi]; exact B.2.2.2.2.2.2.1 _ (by omega)
  · have := LVs j hj
    unfold LVk at *
    rw [lo 35 (by decide) (by decide) (by decide) (by decide), lo 36 (by decide) (by decide) (by decide) (by decide), lo 37 (by decide) (by decide) (by decide) (by decide), lo 38 (by decide) (by decide) (by decide) (by decide), lo 39 (by decide) (by decide) (by decide) (by decide), lo 40 (by decide) (by decide) (by decide) (by decide), lo 41 (by decide) (by decide) (by decide) (by decide)]
    exact LV_dlv hI n8 hb hu hr (by omega) this
  · have all : ∀ k, k ≤ N S 21 a → haR ((tb0 S b) 14 a) ((tb0 S b) 20) ((tb0 S b) 23) a k = true → (tb0 S b) 14 a ≠ 0 ∧ ∀ j, j < k → ¬ (tb0 S b) 23 (8 + ((tb0 S b) 20 (8 * a + j)).toNatClampNeg) ≤ 0 := by
      intro k
      induction k with
      | zero => intro _ h; exact ⟨of_decide_eq_true h, fun j hj => absurd hj (Nat.not_lt_zero _)⟩
      | succ k ih =>
        intro hk h
        rw [haR, Bool.and_eq_true] at h
        have i := ih (by omega) h.1
        refine ⟨i.1, fun j hj => ?_⟩
        rcases Nat.lt_or_ge j k with z | z
        · exact i.2 j z
        · rw [show j = k by omega]; exact of_decide_eq_true h.2
    obtain ⟨t1, t2⟩ := all _ (Nat.le_refl _) hha
    refine ⟨⟨ha, t1⟩, fun c hc => ?_, fun c hc => ?_, ?_, fun h2 x y q1 q2 => ?_, fun x q => ?_, fun q => ?_, ?_⟩
    · rw [vch'] at hc
      obtain ⟨z1, z2, j, z3, z4⟩ := hc
      have z := t2 j z3
      rw [lo 20 (by decide) (by decide) (by decide) (by decide), z4, nI_clamp (by omega)] at z
      have hcn : c < n := D.1.1 _ (D.1.2.1 _ (D.1.2.2.2.2.1 a c ⟨z1, z2, j, z3, z4⟩).2.1)
      unfold vtq; rw [if_pos hcn]
      rcases Nat.eq_zero_or_pos (N (tb0 S b) 23 (8 + c)) with w | w
      · exfalso
        refine z ?_
        rw [f23]
        by_cases y : c = b
        · have w' : ((tb0 S b) 23 (8 + c)).toNatClampNeg = 0 := w
          rw [f23, if_pos (by omega), nI_clamp (by omega)] at w'; omega
        · have w' : ((tb0 S b) 23 (8 + c)).toNatClampNeg = 0 := w
          rw [f23, if_neg (by omega)] at w'
          rw [if_neg (by omega), ((B.2.2.2.2.2.2.2.2.2.1 c (by omega)).2.2.2.2.2.2.2.2.2.2).1, show N S 23 (8 + c) = 0 from w']; decide
      · exact w
    · rw [wd']
      rw [vtq'] at hc
      by_cases y : c = b
      · rw [y]; exact wb
      · rw [if_neg y] at hc; exact (hI.2.2.2.1.1 c (Nat.lt_of_lt_of_le hc (E.1.2.2.1 c))).2.2.1
    · rw [vtr', vR', ← hRab]; exact E.1.2.2.2.2.2.2.2 b a a hpa hu hAab
    · rw [vpa'] at q1; rw [vsp'] at q2; rw [vR'] at h2; rw [vtq', vtr']
      by_cases y' : x = b
      · rw [if_pos y', y']
      · rw [if_neg y']
        have q3 := E.1.2.2.1 x
        rcases Nat.lt_or_ge (vtq S n x) (vtr S n x) with z | z
        · have spx : vsp S b x := D.2.2.1.2.2.2.2.2.2.2.2.2.1 _ _ _ p8.2.2.2.1 (D.2.2.1.2.2.2.2.2.2.2.2.1 _ _ q2)
          exact absurd (E.1.2.2.2.2.2.2.1 b a x y (by rw [hRab]; exact h2) hpa q1 spx hu z).symm y'
        · omega
    · rw [vtr', vR', ← hRab]; exact E.1.2.2.2.2.2.2.2 b a x hpa hu ((D.2.1.1 b a x hpa).mpr (Or.inl q))
    · rw [vtr'] at q
      rw [wd']
      have e25 : (tb0 S b) 25 a = S 25 a := by
        have : a ≠ 8 + b := by omega
        simp [tb0, cpB, tb1, mu, this]
      rw [e25]
      have t := hI.2.2.2.1.1 a q
      exact ⟨t.2.1, t.2.2.1⟩
    · rw [hm, hr, vR', hRb, hRab]
  · rw [vtr']
    refine Nat.eq_zero_of_not_pos (fun q => hha ?_)
    have tha := E.1.1 a q
    have := ha_of (S := tb0 S b) (BI_dlv (by omega) trT hr (by rw [n39]; exact wb) (fun i hi => by rw [n39] at hi; rw [hce i hi]; exact B.2.2.2.2.2.2.1 _ (by omega)) B) ha (by rw [vth']; exact tha) (fun c hc => by
      rw [vch'] at hc
      have z := E.1.2.1 a c q hc
      rw [vtq']
      split
      · exact htb
      · exact z)
    have n21 : N (tb0 S b) 21 a = N S 21 a := by simp only [N, lo 21 (by decide) (by decide) (by decide) (by decide)]
    rw [n21] at this
    exact this
end
