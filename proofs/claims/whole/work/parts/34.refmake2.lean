/-! THE REFERENCE: a table is made, the whole. Written by wip/whole/gen/p34.py -/
section
variable {Γ : jm_G} {d m : Nat} {ar : Nat → Nat} {S : mS} {h : jm_H}
abbrev mk1 (S : mS) (a : Nat) (r : Int32) (w : Nat) : mS := mu (mu (mu S 23 a r) 24 a (S 22 a)) 25 a (nI w)
/-- i entries t of a's table are written -/
def mkC (S : mS) (a : Nat) (t : Nat → Nat) (i : Nat) : mS := fun j x => if j = 26 ∧ 256 * a ≤ x ∧ x < 256 * a + i then nI (t (x - 256 * a)) else S j x
abbrev mkT (S : mS) (a : Nat) (t : Nat → Nat) (i : Nat) (nw : Nat → Nat) (l : Int32) : mS := rsR (mu (mkC S a t i) 33 0 l) 32 8 (fun b => nI (nw b))
theorem mkT_ot {a i j x : Nat} {t nw : Nat → Nat} {l : Int32} (h1 : j ≠ 26) (h2 : j ≠ 32) (h3 : j ≠ 33) : mkT S a t i nw l j x = S j x := by
  simp [mkT, rsR, mu, mkC, h1, h2, h3]
theorem mkT_26 {a i x : Nat} {t nw : Nat → Nat} {l : Int32} : mkT S a t i nw l 26 x = if 256 * a ≤ x ∧ x < 256 * a + i then nI (t (x - 256 * a)) else S 26 x := by
  simp [mkT, rsR, mu, mkC]
theorem mk_wf {n a np cc w i : Nat} {r : Int32} {t nw : Nat → Nat} {l : Int32} (ha : a < 8) (hi : i ≤ 256) (ht : ∀ i, t i ≤ 1048576) (hw : cwf S n a np cc) : cwf (mkT (mk1 S a r w) a t i nw l) n a np cc := by
  obtain ⟨w3, w5, w12, w6, w21, w8, w20, w4, w8c, w26⟩ := hw
  refine ⟨w3, w5, w12, w6, w21, w8, ?_, w4, w8c, ?_⟩
  · intro k hk
    have h1 := w20 k hk
    have e : mkT (mk1 S a r w) a t i nw l 24 (8 + N S 20 (8 * a + k)) = S 24 (8 + N S 20 (8 * a + k)) := by
      rw [mkT_ot (by decide) (by decide) (by decide)]
      simp only [mk1, mu]
      rw [if_neg (by omega), if_neg (by omega), if_neg (by omega)]
    refine ⟨h1.1, ?_⟩
    show unN S (mkT (mk1 S a r w) a t i nw l 24 (8 + N S 20 (8 * a + k))) 8 ≤ 256 ∧ ∀ b, b < 8 → cI (mkT (mk1 S a r w) a t i nw l 24 (8 + N S 20 (8 * a + k))) (nI b) → b < n
    rw [e]
    exact h1.2
  · intro x hx
    by_cases h : 256 * a ≤ x ∧ x < 256 * a + i
    · refine nn_of (k := t (x - 256 * a)) ?_ (ht _) (by decide)
      rw [mkT_26, if_pos h]
    · have := w26 x hx
      unfold nn N
      rw [mkT_26, if_neg h]
      exact this
theorem mk_cost {n a np cc w i : Nat} {r : Int32} {t nw nv : Nat → Nat} {l : Int32} (ha : a < 8) (hi : i ≤ 256) : costN (mkT (mk1 S a r w) a t i nw l) nv a np cc = costN S nv a np cc := by
  have e : s2N (mkT (mk1 S a r w) a t i nw l) nv a np cc = s2N S nv a np cc := by
    show s2R (s1N S nv a np) (S 20) (mkT (mk1 S a r w) a t i nw l 24) (mkT (mk1 S a r w) a t i nw l 26) (S 3) nv a cc = _
    refine s2R_c (fun t' ht => ?_) (fun x hx => ?_) cc
    · rw [mkT_ot (by decide) (by decide) (by decide)]
      simp only [mk1, mu]
      rw [if_neg (by omega), if_neg (by omega), if_neg (by omega)]
    · rw [mkT_26, if_neg (by omega)]
      rfl
  simp only [costN, e]
theorem mk_st {a i y z : Nat} {t : Nat → Nat} {dg : Nat → Nat} {l l' : Int32} (ha : a < 8) : mu (mu (mu (mkT S a t i (upn dg a y) l) 33 0 l') 32 a (nI z)) 26 (256 * a + i) (nI (t i)) = mkT S a t (i + 1) (upn dg a z) l' := by
  funext j x
  by_cases h26 : j = 26
  · subst h26
    simp only [mu, mkT, rsR, mkC]
    by_cases e : x = 256 * a + i
    · subst e
      simp
    · simp [e]
      by_cases e2 : 256 * a ≤ x ∧ x < 256 * a + i
      · rw [if_pos e2, if_pos (by omega)]
      · rw [if_neg e2, if_neg (by omega)]
  · by_cases h32 : j = 32
    · subst h32
      simp only [mu, mkT, rsR, mkC, upn]
      by_cases e : x = a
      · subst e
        simp [ha]
      · simp [e]
    · by_cases h33 : j = 33
      · subst h33
        simp only [mu, mkT, rsR, mkC]
        by_cases e : x = 0
        · simp [e]
        · simp [e]
      · simp [mu, mkT, rsR, mkC, h26, h32, h33]
/-- all about the table of a -/
abbrev mkH (S : mS) (n a np cc z w : Nat) : Prop := a < n ∧ n ≤ 8 ∧ cwf S n a np cc ∧ N S 3 a = z ∧ (∀ b, b < n → 1 ≤ N S 3 b) ∧ ¬ cI (S 22 a) (nI a) ∧ (∀ b, b < 8 → cI (S 22 a) (nI b) → b < n) ∧ w = unN S (S 22 a) 8 ∧ w ≤ 256
theorem lp_M_make {rc rs n a np cc z w : Nat} {r : Int32} {h0 : jm_H} {Q : jm_O → jm_H → Prop} (hd : 4 ≤ d) (hH : mkH S n a np cc z w)
    (hQ : ∀ h, mo h m ar (mkT (mk1 S a r w) a (tabN S a np cc z) w (upn (dgR (S 3) (S 22 a) w) a (z - 1)) (nI (tabN S a np cc z (w - 1)))) → mo_fr m ar h0 h → ∀ ls, jm_W Γ m_M_make d rc rs Q 196 (some (.ref m) :: ls) [] h) :
    ∀ j i, i + j = w → ∀ y l, y < z → (0 < i → y = z - 1 ∧ l = nI (tabN S a np cc z (i - 1))) → ∀ h, mo h m ar (mkT (mk1 S a r w) a (tabN S a np cc z) i (upn (dgR (S 3) (S 22 a) i) a y) l) → mo_fr m ar h0 h → ∀ x2 x4 x5 x6, jm_W Γ m_M_make d rc rs Q 53 [some (.ref m), some (.int (nI a)), x2, some (.int (nI i)), x4, x5, x6] [] h := by
  obtain ⟨han, hn8, hw, hz, hs, hxa, hsn, hwe, hw256⟩ := hH
  have ha : a < 8 := by omega
  have hz3 := (hw.1 a ha).2
  have hz1 := hs a han
  have hupos : 0 < w := by rw [hwe]; exact unR_pos 8 (fun b hb hc => hs b (hsn b hb hc))
  intro j
  induction j with
  | zero =>
    intro i hi y l hy hyl h hm hf x2 x4 x5 x6
    have hi' : i = w := by omega
    subst hi'
    obtain ⟨rfl, rfl⟩ := hyl hupos
    have e25 : mkT (mk1 S a r i) a (tabN S a np cc z) i (upn (dgR (S 3) (S 22 a) i) a (z - 1)) (nI (tabN S a np cc z (i - 1))) 25 a = nI i := by simp [mkT, rsR, mu, mkC]
    refine jm_iload_n d_M_make_53 rfl ?_
    first | refine jm_aload_n d_M_make_54 rfl ?_ | refine jm_aload_nN d_M_make_54 rfl ?_
    refine mr_geta d_M_make_55 f_M_74 hm (by decide) (by decide) ?_
    refine jm_iload_n d_M_make_58 rfl ?_
    refine mr_ldN _ d_M_make_59 hm (by decide) (by decide) rfl rfl (by simp only [mo_len]; omega) ?_
    rw [e25]
    refine jm_icmp_ge 196 d_M_make_60 (by decide) (fun hb60 => ?_) (fun hb60 => ?_)
    · exact hQ h hm hf _
    · exact absurd (nI_le (by omega) (by omega)) hb60
  | succ j ih =>
    intro i hi y l hy hyl h hm hf x2 x4 x5 x6
    have e25 : mkT (mk1 S a r w) a (tabN S a np cc z) i (upn (dgR (S 3) (S 22 a) i) a y) l 25 a = nI w := by simp [mkT, rsR, mu, mkC]
    have ht : ∀ q, tabN S a np cc z q ≤ 1048576 := fun q => blR_le _ _
    have hwT : cwf (mkT (mk1 S a r w) a (tabN S a np cc z) i (upn (dgR (S 3) (S 22 a) i) a y) l) n a np cc := mk_wf ha (by omega) ht hw
    have hdg : nvok S n (dgR (S 3) (S 22 a) i) := by
      intro b hb
      have h4 := (hw.1 b hb).2
      simp only [dgR]
      by_cases ec : cI (S 22 a) (nI b)
      · have h1 := hs b (hsn b hb ec)
        rw [if_pos ec]
        have h5 : (i / unR (S 3) (S 22 a) b) % (S 3 b).toNatClampNeg < N S 3 b := Nat.mod_lt (i / unR (S 3) (S 22 a) b) (show 0 < N S 3 b from h1)
        exact ⟨Nat.lt_of_lt_of_le h5 h4, fun _ => h5⟩
      · rw [if_neg ec]
        exact ⟨by omega, fun q => hs b q⟩
    have hnv : nvok S n (upn (dgR (S 3) (S 22 a) i) a y) := nvok_up hdg (by omega) hz3
    have h32 : ∀ b, b < 8 → mkT (mk1 S a r w) a (tabN S a np cc z) i (upn (dgR (S 3) (S 22 a) i) a y) l 32 b = nI (upn (dgR (S 3) (S 22 a) i) a y b) := fun b hb => by simp [mkT, rsR, hb]
    have hfT : (fun k => costN (mkT (mk1 S a r w) a (tabN S a np cc z) i (upn (dgR (S 3) (S 22 a) i) a y) l) (upn (upn (dgR (S 3) (S 22 a) i) a y) a k) a np cc) = fun k => costN S (upn (dgR (S 3) (S 22 a) i) a k) a np cc := by
      funext k
      rw [mk_cost (n := n) ha (by omega), upn_upn]
    have hst := mk_st (S := mk1 S a r w) (t := tabN S a np cc z) (dg := dgR (S 3) (S 22 a) i) (i := i) (y := y) (z := z - 1) (l := l) (l' := nI (tabN S a np cc z i)) ha
    have e9 := ih (i + 1) (by omega) (z - 1) (nI (tabN S a np cc z i)) (by omega) (fun _ => ⟨rfl, rfl⟩)
    clear ih
    refine jm_iload_n d_M_make_53 rfl ?_
    first | refine jm_aload_n d_M_make_54 rfl ?_ | refine jm_aload_nN d_M_make_54 rfl ?_
    refine mr_geta d_M_make_55 f_M_74 hm (by decide) (by decide) ?_
    refine jm_iload_n d_M_make_58 rfl ?_
    refine mr_ldN _ d_M_make_59 hm (by decide) (by decide) rfl rfl (by simp only [mo_len]; omega) ?_
    rw [e25]
    refine jm_icmp_ge 196 d_M_make_60 (by decide) (fun hb60 => ?_) (fun hb60 => ?_)
    · exact absurd hb60 (nI_ge (by omega) (by omega))
    · first | refine jm_aload_n d_M_make_63 rfl ?_ | refine jm_aload_nN d_M_make_63 rfl ?_
      refine jm_iload_n d_M_make_64 rfl ?_
      refine mr_call (As := [_]) d_M_make_65 l_M_202 iw_M_best ew_M_best nv_M_best rfl (Nat.le_of_ble_eq_true rfl) (by omega : 3 + 1 ≤ _) (k_M_best (S := mkT (mk1 S a r w) a (tabN S a np cc z) i (upn (dgR (S 3) (S 22 a) i) a y) l) (n := n) (nv := upn (dgR (S 3) (S 22 a) i) a y) (np := np) (cc := cc) (z := z) (by omega) ha hwT hnv h32 hz (by omega)) hm hf (fun v9 S9 h hq hm hf => ?_)
      rw [hfT] at hq
      obtain ⟨rfl, rfl⟩ := hq
      generalize hT : mkT (mk1 S a r w) a (tabN S a np cc z) i (upn (dgR (S 3) (S 22 a) i) a y) l = T at *
      have e33 : mu (mu T 33 0 (nI (tabN S a np cc z i))) 32 a (nI (z - 1)) 33 0 = nI (tabN S a np cc z i) := rfl
      have K : ∀ h, mo h m ar (mkT (mk1 S a r w) a (tabN S a np cc z) (i + 1) (upn (dgR (S 3) (S 22 a) i) a (z - 1)) (nI (tabN S a np cc z i))) → mo_fr m ar h0 h → ∀ x4, jm_W Γ m_M_make d rc rs Q 96 [some (.ref m), some (.int (nI a)), x2, some (.int (nI i)), x4, x5, x6] [] h := by
        intro h hm hf x4
        refine jm_iconstL (v := nI 1) d_M_make_96 (by decide) ?_
        refine jm_istore d_M_make_97 (Nat.le_of_ble_eq_true rfl) ?_
        refine jm_iconstL (v := nI 0) d_M_make_99 (by decide) ?_
        refine jm_istore d_M_make_100 (Nat.le_of_ble_eq_true rfl) ?_
        refine lp_M_mkin (B := mu (mkC (mk1 S a r w) a (tabN S a np cc z) (i + 1)) 33 0 (nI (tabN S a np cc z i))) (Z := S 3) (x := S 22 a) (i := i) (y := z - 1) (w1 := none) (by omega) ha rfl rfl hw.1 (fun b hb hc => hs b (hsn b hb hc)) hxa (fun h hm hf x5 x6 => ?_) 8 0 (by omega) _ ?_ h ?_ hf
        · refine jm_iincL (v := nI (i + 1)) d_M_make_190 rfl (by rw [nI_succ]; rfl) ?_
          refine jm_goto 53 d_M_make_193 (by decide) ?_
          refine e9 h ?_ hf _ _ _ _
          rw [rs_c (g := fun b => nI (upn (dgR (S 3) (S 22 a) (i + 1)) a (z - 1) b)) (fun q hq => by simp only [nwB, upn]; by_cases e : q = a <;> simp [e, hq])] at hm
          exact hm
        · show nI 1 = if (i + 1) % 1 = 0 then 1 else 0
          rw [Nat.mod_one, if_pos rfl]
          rfl
        · rw [rs_c (g := fun b => nI (upn (dgR (S 3) (S 22 a) i) a (z - 1) b)) (fun q hq => by simp only [nwB, upn]; by_cases e : q = a <;> simp [e])]
          exact hm
      refine jm_istore d_M_make_68 (Nat.le_of_ble_eq_true rfl) ?_
      first | refine jm_aload_n d_M_make_70 rfl ?_ | refine jm_aload_nN d_M_make_70 rfl ?_
      refine mr_geta d_M_make_71 f_M_77 hm (by decide) (by decide) ?_
      refine jm_sipushL (v := 256) d_M_make_74 (by decide) ?_
      refine jm_iload_n d_M_make_77 rfl ?_
      refine jm_imul d_M_make_78 ?_
      refine jm_iload_n d_M_make_79 rfl ?_
      refine jm_iadd d_M_make_80 ?_
      rw [e256]
      refine jm_iload d_M_make_81 rfl ?_
      refine jm_if_ge 91 d_M_make_83 (by decide) (fun hb83 => ?_) (fun hb83 => ?_)
      · first | refine jm_aload_n d_M_make_91 rfl ?_ | refine jm_aload_nN d_M_make_91 rfl ?_
        refine mr_geti d_M_make_92 f_M_193 hm (by decide) rfl ?_
        try rw [e33]
        refine mr_stN _ d_M_make_95 hm hf (by decide) (by decide) rfl rfl (by simp only [mo_len]; omega) (fun h hm hf => ?_)
        first
          | rw [hst] at hm
          | (have hq := (bvR_neg (fun k => costN S (upn (dgR (S 3) (S 22 a) i) a k) a np cc) z (by omega)).mp (Int32.not_le.mp hb83)
             rw [show (1048576 : Int32) = nI (tabN S a np cc z i) by rw [show tabN S a np cc z i = 1048576 from hq]; rfl, hst] at hm)
        exact K h hm hf _
      · refine jm_ldc d_M_make_86 k_M_145 ?_
        refine jm_goto 95 d_M_make_88 (by decide) ?_
        try rw [e33]
        refine mr_stN _ d_M_make_95 hm hf (by decide) (by decide) rfl rfl (by simp only [mo_len]; omega) (fun h hm hf => ?_)
        first
          | rw [hst] at hm
          | (have hq := (bvR_neg (fun k => costN S (upn (dgR (S 3) (S 22 a) i) a k) a np cc) z (by omega)).mp (Int32.not_le.mp hb83)
             rw [show (1048576 : Int32) = nI (tabN S a np cc z i) by rw [show tabN S a np cc z i = 1048576 from hq]; rfl, hst] at hm)
        exact K h hm hf _
/-- what is after the table of a is made in run r -/
def mkS (S : mS) (a : Nat) (r : Int32) (np cc z w : Nat) : mS := mu (mkT (mk1 S a r w) a (tabN S a np cc z) w (upn (dgR (S 3) (S 22 a) w) a (z - 1)) (nI (tabN S a np cc z (w - 1)))) 27 0 (S 27 0 + 1)
theorem lp_M_mk0 {rc rs a : Nat} {B : mS} {h0 : jm_H} {Q : jm_O → jm_H → Prop} {w1 w2 w4 w5 w6 : Option Value}
    (hQ : ∀ h, mo h m ar (rsR B 32 8 (fun _ => nI 0)) → mo_fr m ar h0 h → ∀ x3, jm_W Γ m_M_make d rc rs Q 51 [some (.ref m), w1, w2, x3, w4, w5, w6] [] h) :
    ∀ j b, b + j = 8 → ∀ h, mo h m ar (rsR B 32 b (fun _ => nI 0)) → mo_fr m ar h0 h → jm_W Γ m_M_make d rc rs Q 32 [some (.ref m), w1, w2, some (.int (nI b)), w4, w5, w6] [] h := by
  intro j
  induction j with
  | zero =>
    intro b hb h hm hf
    have hb' : b = 8 := by omega
    subst hb'
    refine jm_iload_n d_M_make_32 rfl ?_
    refine jm_bipushL (v := 8) d_M_make_33 (by decide) ?_
    refine jm_icmp_ge 51 d_M_make_35 (by decide) (fun hb35 => ?_) (fun hb35 => ?_)
    · exact hQ h hm hf _
    · exact absurd (by decide) hb35
  | succ j ih =>
    intro b hb h hm hf
    refine jm_iload_n d_M_make_32 rfl ?_
    refine jm_bipushL (v := nI 8) d_M_make_33 (by decide) ?_
    refine jm_icmp_ge 51 d_M_make_35 (by decide) (fun hb35 => ?_) (fun hb35 => ?_)
    · exact absurd hb35 (nI_ge (b := 8) (by omega) (by decide))
    · first | refine jm_aload_n d_M_make_38 rfl ?_ | refine jm_aload_nN d_M_make_38 rfl ?_
      refine mr_geta d_M_make_39 f_M_92 hm (by decide) (by decide) ?_
      refine jm_iload_n d_M_make_42 rfl ?_
      refine jm_iconstL (v := nI 0) d_M_make_43 (by decide) ?_
      refine mr_stN _ d_M_make_44 hm hf (by decide) (by decide) rfl rfl (by simp only [mo_len]; omega) (fun h hm hf => ?_)
      refine jm_iincL (v := nI (b + 1)) d_M_make_45 rfl (by rw [nI_succ]; rfl) ?_
      refine jm_goto 32 d_M_make_48 (by decide) ?_
      refine ih (b + 1) (by omega) h ?_ hf
      rw [← rs_s]
      exact hm
theorem k_M_make {n a np cc z w : Nat} (r : Int32) (hd : 4 ≤ d) (hH : mkH S n a np cc z w) : mM Γ m_M_make d m ar [.int (nI a), .int r] S (fun v9 S' => v9 = none ∧ S' = mkS S a r np cc z w) := by
  intro h hm
  have hf : mo_fr m ar h h := mo_fr.rf
  have hH0 := hH
  obtain ⟨han, hn8, hw, hz, hs, hxa, hsn, hwe, hw256⟩ := hH0
  have ha : a < 8 := by omega
  have hz1 := hs a han
  refine jm_entry (by decide +kernel) (List.forall_mem_cons.mpr ⟨rfl, List.forall_mem_cons.mpr ⟨rfl, List.forall_mem_cons.mpr ⟨rfl, fun _ h => nomatch h⟩⟩⟩) (Nat.le_of_ble_eq_true rfl) ?_
  show jm_W _ _ _ _ _ _ 0 [some (.ref m), some (.int (nI a)), some (.int r), none, none, none, none] [] _
  first | refine jm_aload_n d_M_make_0 rfl ?_ | refine jm_aload_nN d_M_make_0 rfl ?_
  refine mr_geta d_M_make_1 f_M_68 hm (by decide) (by decide) ?_
  refine jm_iload_n d_M_make_4 rfl ?_
  refine jm_iload_n d_M_make_5 rfl ?_
  refine mr_stN _ d_M_make_6 hm hf (by decide) (by decide) rfl rfl (by simp only [mo_len]; omega) (fun h hm hf => ?_)
  first | refine jm_aload_n d_M_make_7 rfl ?_ | refine jm_aload_nN d_M_make_7 rfl ?_
  refine mr_geta d_M_make_8 f_M_71 hm (by decide) (by decide) ?_
  refine jm_iload_n d_M_make_11 rfl ?_
  first | refine jm_aload_n d_M_make_12 rfl ?_ | refine jm_aload_nN d_M_make_12 rfl ?_
  refine mr_geta d_M_make_13 f_M_65 hm (by decide) (by decide) ?_
  refine jm_iload_n d_M_make_16 rfl ?_
  refine mr_ldN _ d_M_make_17 hm (by decide) (by decide) rfl rfl (by simp only [mo_len]; omega) ?_
  refine mr_stN _ d_M_make_18 hm hf (by decide) (by decide) rfl rfl (by simp only [mo_len]; omega) (fun h hm hf => ?_)
  first | refine jm_aload_n d_M_make_19 rfl ?_ | refine jm_aload_nN d_M_make_19 rfl ?_
  refine mr_geta d_M_make_20 f_M_74 hm (by decide) (by decide) ?_
  refine jm_iload_n d_M_make_23 rfl ?_
  first | refine jm_aload_n d_M_make_24 rfl ?_ | refine jm_aload_nN d_M_make_24 rfl ?_
  refine jm_iload_n d_M_make_25 rfl ?_
  refine mr_callp (As := [_]) d_M_make_26 l_M_199 iw_M_width ew_M_width nv_M_width rfl (Nat.le_of_ble_eq_true rfl) (by omega : 1 + 1 ≤ _) (k_M_width (S := mu (mu S 23 a r) 24 a (S 22 a)) ha (by omega) hw.1) hm ?_
  refine mr_stN _ d_M_make_29 hm hf (by decide) (by decide) rfl rfl (by simp only [mo_len]; omega) (fun h hm hf => ?_)
  refine jm_iconstL (v := nI 0) d_M_make_30 (by decide) ?_
  refine jm_istore_n d_M_make_31 (Nat.le_of_ble_eq_true rfl) ?_
  have hm : mo h m ar (mk1 S a r w) := by rw [hwe]; exact hm
  refine lp_M_mk0 (a := a) (B := mk1 S a r w) (fun h hm hf x3 => ?_) 8 0 (by omega) h ?_ hf
  · refine jm_iconstL (v := nI 0) d_M_make_51 (by decide) ?_
    refine jm_istore_n d_M_make_52 (Nat.le_of_ble_eq_true rfl) ?_
    refine lp_M_make (r := r) hd hH (fun h hm hf ls => ?_) w 0 (by omega) 0 (S 33 0) (by omega) (fun q => absurd q (by omega)) h ?_ hf _ _ _ _
    first | refine jm_aload_n d_M_make_196 rfl ?_ | refine jm_aload_nN d_M_make_196 rfl ?_
    refine jm_dup d_M_make_197 rfl ?_
    refine mr_geti d_M_make_198 f_M_205 hm (by decide) rfl ?_
    refine jm_iconstL (v := 1) d_M_make_201 (by decide) ?_
    refine jm_iadd d_M_make_202 ?_
    refine mr_puti d_M_make_203 f_M_205 hm hf (by decide) rfl (fun h hm hf => ?_)
    exact jm_vret d_M_make_206 rfl ⟨_, _, rfl, ⟨rfl, rfl⟩, hm, hf⟩
    · rw [show mkT (mk1 S a r w) a (tabN S a np cc z) 0 (upn (dgR (S 3) (S 22 a) 0) a 0) (S 33 0) = rsR (mk1 S a r w) 32 8 (fun _ => nI 0) from ?_]
      · exact hm
      · rw [mkT, show mkC (mk1 S a r w) a (tabN S a np cc z) 0 = mk1 S a r w from by funext j x; simp only [mkC]; rw [if_neg (by omega)], mu_id (S := mk1 S a r w) (j := 33) (i := 0) (x := S 33 0) rfl]
        refine rs_c (fun q hq => ?_)
        simp only [upn, dgR]
        congr 1
        split
        · rfl
        · split
          · rw [Nat.zero_div, Nat.zero_mod]
          · rfl
  · rw [rs_0]
    exact hm
end
