/-! THE REFERENCE: findPart, start. Written by wip/whole/gen/p39.py -/
section
variable {Γ : jm_G} {d m : Nat} {ar : Nat → Nat} {S : mS} {h : jm_H}
/-- one sweep over the agents below k: who is in, his neighbours come in -/
def swR (nb : Nat → Int32) (x : Int32) : Nat → Int32
  | 0 => x
  | k + 1 => if cI (swR nb x k) (nI k) then swR nb x k ||| nb k else swR nb x k
def itR (nb : Nat → Int32) (n : Nat) (x : Int32) : Nat → Int32
  | 0 => x
  | i + 1 => swR nb (itR nb n x i) n
theorem it_fix {nb : Nat → Int32} {n : Nat} {x : Int32} {i : Nat} (h : itR nb n x (i + 1) = itR nb n x i) : ∀ j, itR nb n x (i + j) = itR nb n x i
  | 0 => rfl
  | j + 1 => by
    show swR nb (itR nb n x (i + j)) n = _
    rw [it_fix h j]
    exact h
theorem it_all {nb : Nat → Int32} {n : Nat} {x : Int32} {i k : Nat} (hi : itR nb n x (i + 1) = itR nb n x i) (hk : itR nb n x (k + 1) = itR nb n x k) : itR nb n x i = itR nb n x k := by
  rcases Nat.le_total i k with h | h
  · have := it_fix hi (k - i)
    rw [show i + (k - i) = k by omega] at this
    exact this.symm
  · have := it_fix hk (i - k)
    rw [show k + (i - k) = i by omega] at this
    exact this
theorem lp_M_sweep {rc rs n a : Nat} {x : Int32} {Q : jm_O → jm_H → Prop} {w3 : Option Value} (hd : 1 ≤ d) (hn : S 1 0 = nI n) (h8 : n ≤ 8) (hm : mo h m ar S)
    (hQ : ∀ x4, jm_W Γ m_M_findPart d rc rs Q 54 [some (.ref m), some (.int (nI a)), some (.int (swR (S 9) x n)), w3, x4] [] h) :
    ∀ j k, k + j = n → jm_W Γ m_M_findPart d rc rs Q 16 [some (.ref m), some (.int (nI a)), some (.int (swR (S 9) x k)), w3, some (.int (nI k))] [] h := by
  intro j
  induction j with
  | zero =>
    intro k hk
    have hk' : k = n := by omega
    subst hk'
    refine jm_iload d_M_findPart_16 rfl ?_
    first | refine jm_aload_n d_M_findPart_18 rfl ?_ | refine jm_aload_nN d_M_findPart_18 rfl ?_
    refine mr_geti d_M_findPart_19 f_M_124 hm (by decide) rfl ?_
    rw [hn]
    refine jm_icmp_ge 54 d_M_findPart_22 (by decide) (fun hb22 => ?_) (fun hb22 => ?_)
    · exact hQ _
    · exact absurd (nI_le (by omega) (by omega)) hb22
  | succ j ih =>
    intro k hk
    have e9 := ih (k + 1) (by omega)
    refine jm_iload d_M_findPart_16 rfl ?_
    first | refine jm_aload_n d_M_findPart_18 rfl ?_ | refine jm_aload_nN d_M_findPart_18 rfl ?_
    refine mr_geti d_M_findPart_19 f_M_124 hm (by decide) rfl ?_
    rw [hn]
    refine jm_icmp_ge 54 d_M_findPart_22 (by decide) (fun hb22 => ?_) (fun hb22 => ?_)
    · exact absurd hb22 (nI_ge (by omega) (by omega))
    · refine jm_iload_n d_M_findPart_25 rfl ?_
      refine jm_iload d_M_findPart_26 rfl ?_
      refine jm_callSp (As := [_, _]) d_M_findPart_28 l_M_120 sw_M_has nv_M_has rfl (Nat.le_of_ble_eq_true rfl) (by omega : 0 + 1 ≤ _) (k_M_has _ _) ?_
      first | refine jm_bz_eq 46 d_M_findPart_31 (by decide) (fun hb31 => ?_) (fun hb31 => ?_) | refine jm_if_eq 46 d_M_findPart_31 (by decide) (fun hb31 => ?_) (fun hb31 => ?_)
      · refine jm_iload_n d_M_findPart_46 rfl ?_
        refine jm_istore_n d_M_findPart_47 (Nat.le_of_ble_eq_true rfl) ?_
        refine jm_iincL (v := nI (k + 1)) d_M_findPart_48 rfl (by rw [nI_succ]; rfl) ?_
        refine jm_goto 16 d_M_findPart_51 (by decide) ?_
        first | rw [show swR (S 9) x (k + 1) = swR (S 9) x k from if_neg hb31] at e9 | rw [show swR (S 9) x (k + 1) = swR (S 9) x k ||| S 9 k from if_pos hb31] at e9
        exact e9
      · refine jm_iload_n d_M_findPart_34 rfl ?_
        first | refine jm_aload_n d_M_findPart_35 rfl ?_ | refine jm_aload_nN d_M_findPart_35 rfl ?_
        refine mr_geta d_M_findPart_36 f_M_25 hm (by decide) (by decide) ?_
        refine jm_iload d_M_findPart_39 rfl ?_
        refine mr_ldN _ d_M_findPart_41 hm (by decide) (by decide) rfl rfl (by simp only [mo_len]; omega) ?_
        refine jm_ior d_M_findPart_42 ?_
        refine jm_goto 47 d_M_findPart_43 (by decide) ?_
        refine jm_istore_n d_M_findPart_47 (Nat.le_of_ble_eq_true rfl) ?_
        refine jm_iincL (v := nI (k + 1)) d_M_findPart_48 rfl (by rw [nI_succ]; rfl) ?_
        refine jm_goto 16 d_M_findPart_51 (by decide) ?_
        first | rw [show swR (S 9) x (k + 1) = swR (S 9) x k from if_neg hb31] at e9 | rw [show swR (S 9) x (k + 1) = swR (S 9) x k ||| S 9 k from if_pos hb31] at e9
        exact e9
theorem lp_M_find {rc rs n a K : Nat} {x : Int32} {Q : jm_O → jm_H → Prop} (hd : 1 ≤ d) (hn : S 1 0 = nI n) (h8 : n ≤ 8) (hx : x ≠ 0) (hK : itR (S 9) n x (K + 1) = itR (S 9) n x K) (hm : mo h m ar S)
    (hQ : ∀ x3 x4, jm_W Γ m_M_findPart d rc rs Q 57 [some (.ref m), some (.int (nI a)), some (.int (itR (S 9) n x K)), x3, x4] [] h) :
    ∀ j i, i + j = K + 1 → ∀ y, (i = 0 → y = 0) → (∀ q, i = q + 1 → y = itR (S 9) n x q) → ∀ x4, jm_W Γ m_M_findPart d rc rs Q 6 [some (.ref m), some (.int (nI a)), some (.int (itR (S 9) n x i)), some (.int y), x4] [] h := by
  intro j
  induction j with
  | zero =>
    intro i hi y h0 h1 x4
    have hi' : i = K + 1 := by omega
    subst hi'
    have hy := h1 K rfl
    subst hy
    refine jm_iload_n d_M_findPart_6 rfl ?_
    refine jm_iload_n d_M_findPart_7 rfl ?_
    refine jm_icmp_eq 57 d_M_findPart_8 (by decide) (fun hb8 => ?_) (fun hb8 => ?_)
    · rw [hK]
      exact hQ _ _
    · exact absurd hK.symm hb8
  | succ j ih =>
    intro i hi y h0 h1 x4
    refine jm_iload_n d_M_findPart_6 rfl ?_
    refine jm_iload_n d_M_findPart_7 rfl ?_
    refine jm_icmp_eq 57 d_M_findPart_8 (by decide) (fun hb8 => ?_) (fun hb8 => ?_)
    · cases i with
      | zero => exact absurd (hb8.symm.trans (h0 rfl)) hx
      | succ q =>
        have e := h1 q rfl
        rw [show itR (S 9) n x (q + 1) = itR (S 9) n x K from (hb8.symm.trans e).trans (it_all ((hb8.symm.trans e)) hK)]
        exact hQ _ _
    · refine jm_iload_n d_M_findPart_11 rfl ?_
      refine jm_istore_n d_M_findPart_12 (Nat.le_of_ble_eq_true rfl) ?_
      refine jm_iconstL (v := nI 0) d_M_findPart_13 (by decide) ?_
      refine jm_istore d_M_findPart_14 (Nat.le_of_ble_eq_true rfl) ?_
      refine lp_M_sweep (a := a) (x := itR (S 9) n x i) hd hn h8 hm (fun x4 => ?_) n 0 (by omega)
      refine jm_goto 6 d_M_findPart_54 (by decide) ?_
      exact ih (i + 1) (by omega) _ (fun q => absurd q (by omega)) (fun q e => by rw [show i = q by omega]) _
/-- who goes before all others of mask x below k -/
def rtR (nb : Nat → Int32) (x : Int32) : Nat → Int32
  | 0 => -1
  | k + 1 => if cI x (nI k) ∧ gbR nb (nI k) (rtR nb x k) then nI k else rtR nb x k
theorem rtR_ix (nb : Nat → Int32) (x : Int32) : ∀ b, (rtR nb x b = -1 ∧ ∀ k, k < b → ¬ cI x (nI k)) ∨ ∃ k, k < b ∧ rtR nb x b = nI k ∧ cI x (nI k)
  | 0 => Or.inl ⟨rfl, fun k hk => absurd hk (by omega)⟩
  | b + 1 => by
    by_cases hc : cI x (nI b) ∧ gbR nb (nI b) (rtR nb x b)
    · exact Or.inr ⟨b, by omega, if_pos hc, hc.1⟩
    · rw [show rtR nb x (b + 1) = rtR nb x b from if_neg hc]
      rcases rtR_ix nb x b with ⟨q, q'⟩ | ⟨k, q1, q2⟩
      · refine Or.inl ⟨q, fun k hk hck => ?_⟩
        by_cases e : k = b
        · subst e
          exact hc ⟨hck, Or.inl (by rw [q]; decide)⟩
        · exact q' k (by omega) hck
      · exact Or.inr ⟨k, by omega, q2⟩
/-- the agents of mask x below k get part a -/
def fpC (S : mS) (a : Nat) (x : Int32) (k : Nat) : mS := fun j i => if j = 10 ∧ i < k ∧ cI x (nI i) then nI a else if j = 11 ∧ i = a then rtR (S 9) x k else if j = 12 ∧ i = a then 1 else S j i
theorem fpC_0 {a : Nat} {x : Int32} : mu (mu S 11 a (-1)) 12 a 1 = fpC S a x 0 := by
  funext j i
  simp only [mu, fpC]
  by_cases h10 : j = 10
  · subst h10
    simp
  · by_cases h11 : j = 11
    · subst h11
      by_cases e : i = a
      · simp [e, rtR]
      · simp [e]
    · by_cases h12 : j = 12
      · subst h12
        simp
      · simp [h10, h11, h12]
theorem fpC_n {a k : Nat} {x : Int32} (hc : ¬ cI x (nI k)) : fpC S a x (k + 1) = fpC S a x k := by
  funext j i
  simp only [fpC]
  rw [show rtR (S 9) x (k + 1) = rtR (S 9) x k from if_neg (fun q => hc q.1)]
  by_cases h10 : j = 10
  · subst h10
    by_cases e : i = k
    · subst e
      simp [hc]
    · have hik : i < k + 1 ↔ i < k := by omega
      simp [hik]
  · simp [h10]
theorem fpC_s {a k : Nat} {x y : Int32} (hc : cI x (nI k)) (hy : y = rtR (S 9) x (k + 1)) : mu (mu (fpC S a x k) 10 k (nI a)) 11 a y = fpC S a x (k + 1) := by
  funext j i
  simp only [mu, fpC]
  by_cases h10 : j = 10
  · subst h10
    by_cases e : i = k
    · subst e
      simp [hc]
    · have hik : i < k + 1 ↔ i < k := by omega
      simp [e, hik]
  · by_cases h11 : j = 11
    · subst h11
      by_cases e : i = a
      · simp [e, hy]
      · simp [e]
    · simp [h10, h11]
theorem lp_M_fp {rc rs n a : Nat} {x : Int32} {h0 : jm_H} {Q : jm_O → jm_H → Prop} {w3 : Option Value} (hd : 3 ≤ d) (ha : a < 8) (hn : S 1 0 = nI n) (h8 : n ≤ 8)
    (hQ : ∀ h, mo h m ar (fpC S a x n) → mo_fr m ar h0 h → Q (.inl none) h) :
    ∀ j k, k + j = n → ∀ h, mo h m ar (fpC S a x k) → mo_fr m ar h0 h → jm_W Γ m_M_findPart d rc rs Q 74 [some (.ref m), some (.int (nI a)), some (.int x), w3, some (.int (nI k))] [] h := by
  intro j
  induction j with
  | zero =>
    intro k hk h hm hf
    have hk' : k = n := by omega
    subst hk'
    have e1 : fpC S a x k 1 0 = nI k := hn
    refine jm_iload d_M_findPart_74 rfl ?_
    first | refine jm_aload_n d_M_findPart_76 rfl ?_ | refine jm_aload_nN d_M_findPart_76 rfl ?_
    refine mr_geti d_M_findPart_77 f_M_124 hm (by decide) rfl ?_
    rw [e1]
    refine jm_icmp_ge 138 d_M_findPart_80 (by decide) (fun hb80 => ?_) (fun hb80 => ?_)
    · exact jm_vret d_M_findPart_138 rfl (hQ h hm hf)
    · exact absurd (nI_le (by omega) (by omega)) hb80
  | succ j ih =>
    intro k hk h hm hf
    have e1 : fpC S a x k 1 0 = nI n := hn
    have e11 : mu (fpC S a x k) 10 k (nI a) 11 a = rtR (S 9) x k := by simp [mu, fpC]
    have hv : 0 ≤ rtR (S 9) x k → vp_in (rtR (S 9) x k) 8 := by
      intro q
      rcases rtR_ix (S 9) x k with ⟨z, -⟩ | ⟨l, z1, z2, -⟩
      · rw [z] at q; exact absurd q (by decide)
      · rw [z2]; exact b8 (by omega)
    have en : rtR (S 9) x (k + 1) = if cI x (nI k) ∧ gbR (S 9) (nI k) (rtR (S 9) x k) then nI k else rtR (S 9) x k := rfl
    refine jm_iload d_M_findPart_74 rfl ?_
    first | refine jm_aload_n d_M_findPart_76 rfl ?_ | refine jm_aload_nN d_M_findPart_76 rfl ?_
    refine mr_geti d_M_findPart_77 f_M_124 hm (by decide) rfl ?_
    rw [e1]
    refine jm_icmp_ge 138 d_M_findPart_80 (by decide) (fun hb80 => ?_) (fun hb80 => ?_)
    · exact absurd hb80 (nI_ge (by omega) (by omega))
    · refine jm_iload_n d_M_findPart_83 rfl ?_
      refine jm_iload d_M_findPart_84 rfl ?_
      refine jm_callSp (As := [_, _]) d_M_findPart_86 l_M_120 sw_M_has nv_M_has rfl (Nat.le_of_ble_eq_true rfl) (by omega : 0 + 1 ≤ _) (k_M_has _ _) ?_
      first | refine jm_bz_eq 132 d_M_findPart_89 (by decide) (fun hb89 => ?_) (fun hb89 => ?_) | refine jm_if_eq 132 d_M_findPart_89 (by decide) (fun hb89 => ?_) (fun hb89 => ?_)
      · refine jm_iincL (v := nI (k + 1)) d_M_findPart_132 rfl (by rw [nI_succ]; rfl) ?_
        refine jm_goto 74 d_M_findPart_135 (by decide) ?_
        refine ih (k + 1) (by omega) h ?_ hf
        first
          | (rw [fpC_s (y := nI k) hb89 (if_pos (And.intro hb89 hb117)).symm] at hm; exact hm)
          | (rw [fpC_s (y := rtR (S 9) x k) hb89 (if_neg (fun q => hb117 (And.right q))).symm] at hm; exact hm)
          | (rw [fpC_n hb89]; exact hm)
      · first | refine jm_aload_n d_M_findPart_92 rfl ?_ | refine jm_aload_nN d_M_findPart_92 rfl ?_
        refine mr_geta d_M_findPart_93 f_M_28 hm (by decide) (by decide) ?_
        refine jm_iload d_M_findPart_96 rfl ?_
        refine jm_iload_n d_M_findPart_98 rfl ?_
        refine mr_stN _ d_M_findPart_99 hm hf (by decide) (by decide) rfl rfl (by simp only [mo_len]; omega) (fun h hm hf => ?_)
        first | refine jm_aload_n d_M_findPart_100 rfl ?_ | refine jm_aload_nN d_M_findPart_100 rfl ?_
        refine mr_geta d_M_findPart_101 f_M_31 hm (by decide) (by decide) ?_
        refine jm_iload_n d_M_findPart_104 rfl ?_
        first | refine jm_aload_n d_M_findPart_105 rfl ?_ | refine jm_aload_nN d_M_findPart_105 rfl ?_
        refine jm_iload d_M_findPart_106 rfl ?_
        first | refine jm_aload_n d_M_findPart_108 rfl ?_ | refine jm_aload_nN d_M_findPart_108 rfl ?_
        refine mr_geta d_M_findPart_109 f_M_31 hm (by decide) (by decide) ?_
        refine jm_iload_n d_M_findPart_112 rfl ?_
        refine mr_ldN _ d_M_findPart_113 hm (by decide) (by decide) rfl rfl (by simp only [mo_len]; omega) ?_
        rw [e11]
        refine mr_callp (As := [_, _]) d_M_findPart_114 l_M_165 iw_M_goesBefore ew_M_goesBefore nv_M_goesBefore rfl (Nat.le_of_ble_eq_true rfl) (by omega : 2 + 1 ≤ _) (k_M_goesBefore (S := mu (fpC S a x k) 10 k (nI a)) (by omega) _ _ (b8 (by omega)) hv) hm ?_
        first | refine jm_bz_eq 125 d_M_findPart_117 (by decide) (fun hb117 => ?_) (fun hb117 => ?_) | refine jm_if_eq 125 d_M_findPart_117 (by decide) (fun hb117 => ?_) (fun hb117 => ?_)
        · first | refine jm_aload_n d_M_findPart_125 rfl ?_ | refine jm_aload_nN d_M_findPart_125 rfl ?_
          refine mr_geta d_M_findPart_126 f_M_31 hm (by decide) (by decide) ?_
          refine jm_iload_n d_M_findPart_129 rfl ?_
          refine mr_ldN _ d_M_findPart_130 hm (by decide) (by decide) rfl rfl (by simp only [mo_len]; omega) ?_
          try rw [e11]
          refine mr_stN _ d_M_findPart_131 hm hf (by decide) (by decide) rfl rfl (by simp only [mo_len]; omega) (fun h hm hf => ?_)
          refine jm_iincL (v := nI (k + 1)) d_M_findPart_132 rfl (by rw [nI_succ]; rfl) ?_
          refine jm_goto 74 d_M_findPart_135 (by decide) ?_
          refine ih (k + 1) (by omega) h ?_ hf
          first
            | (rw [fpC_s (y := nI k) hb89 (if_pos (And.intro hb89 hb117)).symm] at hm; exact hm)
            | (rw [fpC_s (y := rtR (S 9) x k) hb89 (if_neg (fun q => hb117 (And.right q))).symm] at hm; exact hm)
            | (rw [fpC_n hb89]; exact hm)
        · refine jm_iload d_M_findPart_120 rfl ?_
          refine jm_goto 131 d_M_findPart_122 (by decide) ?_
          try rw [e11]
          refine mr_stN _ d_M_findPart_131 hm hf (by decide) (by decide) rfl rfl (by simp only [mo_len]; omega) (fun h hm hf => ?_)
          refine jm_iincL (v := nI (k + 1)) d_M_findPart_132 rfl (by rw [nI_succ]; rfl) ?_
          refine jm_goto 74 d_M_findPart_135 (by decide) ?_
          refine ih (k + 1) (by omega) h ?_ hf
          first
            | (rw [fpC_s (y := nI k) hb89 (if_pos (And.intro hb89 hb117)).symm] at hm; exact hm)
            | (rw [fpC_s (y := rtR (S 9) x k) hb89 (if_neg (fun q => hb117 (And.right q))).symm] at hm; exact hm)
            | (rw [fpC_n hb89]; exact hm)
theorem k_M_findPart {n a K : Nat} (hd : 3 ≤ d) (ha : a < 8) (hn : S 1 0 = nI n) (h8 : n ≤ 8) (hx : (1 <<< (nI a &&& 31) : Int32) ≠ 0) (hK : itR (S 9) n (1 <<< (nI a &&& 31)) (K + 1) = itR (S 9) n (1 <<< (nI a &&& 31)) K) : mM Γ m_M_findPart d m ar [.int (nI a)] S (fun v9 S' => v9 = none ∧ S' = fpC S a (itR (S 9) n (1 <<< (nI a &&& 31)) K) n) := by
  intro h hm
  have hf : mo_fr m ar h h := mo_fr.rf
  refine jm_entry (by decide +kernel) (List.forall_mem_cons.mpr ⟨rfl, List.forall_mem_cons.mpr ⟨rfl, fun _ h => nomatch h⟩⟩) (Nat.le_of_ble_eq_true rfl) ?_
  show jm_W _ _ _ _ _ _ 0 [some (.ref m), some (.int (nI a)), none, none, none] [] _
  refine jm_iconstL (v := 1) d_M_findPart_0 (by decide) ?_
  refine jm_iload_n d_M_findPart_1 rfl ?_
  refine jm_ishl d_M_findPart_2 ?_
  refine jm_istore_n d_M_findPart_3 (Nat.le_of_ble_eq_true rfl) ?_
  refine jm_iconstL (v := 0) d_M_findPart_4 (by decide) ?_
  refine jm_istore_n d_M_findPart_5 (Nat.le_of_ble_eq_true rfl) ?_
  refine lp_M_find (x := 1 <<< (nI a &&& 31)) (by omega) hn h8 hx hK hm (fun x3 x4 => ?_) (K + 1) 0 (by omega) 0 (fun _ => rfl) (fun q e => absurd e (by omega)) _
  first | refine jm_aload_n d_M_findPart_57 rfl ?_ | refine jm_aload_nN d_M_findPart_57 rfl ?_
  refine mr_geta d_M_findPart_58 f_M_31 hm (by decide) (by decide) ?_
  refine jm_iload_n d_M_findPart_61 rfl ?_
  refine jm_iconstL (v := (-1)) d_M_findPart_62 (by decide) ?_
  refine mr_stN _ d_M_findPart_63 hm hf (by decide) (by decide) rfl rfl (by simp only [mo_len]; omega) (fun h hm hf => ?_)
  first | refine jm_aload_n d_M_findPart_64 rfl ?_ | refine jm_aload_nN d_M_findPart_64 rfl ?_
  refine mr_geta d_M_findPart_65 f_M_34 hm (by decide) (by decide) ?_
  refine jm_iload_n d_M_findPart_68 rfl ?_
  refine jm_iconstL (v := 1) d_M_findPart_69 (by decide) ?_
  refine mr_stN _ d_M_findPart_70 hm hf (by decide) (by decide) rfl rfl (by simp only [mo_len]; omega) (fun h hm hf => ?_)
  rw [fpC_0 (x := itR (S 9) n (1 <<< (nI a &&& 31)) K)] at hm
  refine jm_iconstL (v := nI 0) d_M_findPart_71 (by decide) ?_
  refine jm_istore d_M_findPart_72 (Nat.le_of_ble_eq_true rfl) ?_
  exact lp_M_fp (by omega) ha hn h8 (fun h hm hf => ⟨_, _, rfl, ⟨rfl, rfl⟩, hm, hf⟩) n 0 (by omega) h hm hf
/-- the parts of the agents below k are found -/
def spF (S : mS) (n : Nat) (M : Nat → Int32) : Nat → mS
  | 0 => S
  | a + 1 => if 0 ≤ spF S n M a 10 a then spF S n M a else fpC (spF S n M a) a (M a) n
def spN (S : mS) (n : Nat) (M : Nat → Int32) : Nat → Nat
  | 0 => 0
  | a + 1 => if 0 ≤ spF S n M a 10 a then spN S n M a else spN S n M a + 1
theorem spF_lo {n j : Nat} {M : Nat → Int32} (h10 : j ≠ 10) (h11 : j ≠ 11) (h12 : j ≠ 12) : ∀ a, spF S n M a j = S j
  | 0 => rfl
  | a + 1 => by
    simp only [spF]
    split
    · exact spF_lo h10 h11 h12 a
    · funext i
      rw [← congrFun (spF_lo (n := n) (M := M) h10 h11 h12 a) i]
      simp [fpC, h10, h11, h12]
/-- the roots below k get their tokens -/
def rkF (S : mS) (n np : Nat) : Nat → mS
  | 0 => S
  | a + 1 => if rkF S n np a 11 (N (rkF S n np a) 10 a) = nI a then hdC (rt0 (rkF S n np a) a (-1) 0) a n np else rkF S n np a
theorem lp_M_st1 {rc rs n : Nat} {M : Nat → Int32} {K : Nat → Nat} {h0 : jm_H} {Q : jm_O → jm_H → Prop} (hd : 4 ≤ d) (hn : S 1 0 = nI n) (h8 : n ≤ 8) (hM : ∀ a, a < n → M a = itR (S 9) n (1 <<< (nI a &&& 31)) (K a) ∧ (1 <<< (nI a &&& 31) : Int32) ≠ 0 ∧ itR (S 9) n (1 <<< (nI a &&& 31)) (K a + 1) = itR (S 9) n (1 <<< (nI a &&& 31)) (K a))
    (hQ : ∀ h, mo h m ar (spF S n M n) → mo_fr m ar h0 h → ∀ x2, jm_W Γ m_M_start d rc rs Q 72 [some (.ref m), some (.int (nI (spN S n M n))), x2] [] h) :
    ∀ j a, a + j = n → ∀ h, mo h m ar (spF S n M a) → mo_fr m ar h0 h → jm_W Γ m_M_start d rc rs Q 41 [some (.ref m), some (.int (nI (spN S n M a))), some (.int (nI a))] [] h := by
  intro j
  induction j with
  | zero =>
    intro a ha h hm hf
    have ha' : a = n := by omega
    subst ha'
    have e1 : spF S a M a 1 0 = nI a := (congrFun (spF_lo (by decide) (by decide) (by decide) a) 0).trans hn
    refine jm_iload_n d_M_start_41 rfl ?_
    first | refine jm_aload_n d_M_start_42 rfl ?_ | refine jm_aload_nN d_M_start_42 rfl ?_
    refine mr_geti d_M_start_43 f_M_124 hm (by decide) rfl ?_
    rw [e1]
    refine jm_icmp_ge 72 d_M_start_46 (by decide) (fun hb46 => ?_) (fun hb46 => ?_)
    · exact hQ h hm hf _
    · exact absurd (nI_le (by omega) (by omega)) hb46
  | succ j ih =>
    intro a ha h hm hf
    have e1 : spF S n M a 1 0 = nI n := (congrFun (spF_lo (by decide) (by decide) (by decide) a) 0).trans hn
    have e9 : spF S n M a 9 = S 9 := spF_lo (by decide) (by decide) (by decide) a
    obtain ⟨m1, m2, m3⟩ := hM a (by omega)
    have ef : spF S n M (a + 1) = if 0 ≤ spF S n M a 10 a then spF S n M a else fpC (spF S n M a) a (M a) n := rfl
    have en : spN S n M (a + 1) = if 0 ≤ spF S n M a 10 a then spN S n M a else spN S n M a + 1 := rfl
    have ek := ih (a + 1) (by omega)
    refine jm_iload_n d_M_start_41 rfl ?_
    first | refine jm_aload_n d_M_start_42 rfl ?_ | refine jm_aload_nN d_M_start_42 rfl ?_
    refine mr_geti d_M_start_43 f_M_124 hm (by decide) rfl ?_
    rw [e1]
    refine jm_icmp_ge 72 d_M_start_46 (by decide) (fun hb46 => ?_) (fun hb46 => ?_)
    · exact absurd hb46 (nI_ge (by omega) (by omega))
    · first | refine jm_aload_n d_M_start_49 rfl ?_ | refine jm_aload_nN d_M_start_49 rfl ?_
      refine mr_geta d_M_start_50 f_M_28 hm (by decide) (by decide) ?_
      refine jm_iload_n d_M_start_53 rfl ?_
      refine mr_ldN _ d_M_start_54 hm (by decide) (by decide) rfl rfl (by simp only [mo_len]; omega) ?_
      refine jm_if_ge 66 d_M_start_55 (by decide) (fun hb55 => ?_) (fun hb55 => ?_)
      · refine jm_iincL (v := nI (a + 1)) d_M_start_66 rfl (by rw [nI_succ]; rfl) ?_
        refine jm_goto 41 d_M_start_69 (by decide) ?_
        rw [ef, en, if_pos hb55, if_pos hb55] at ek
        exact ek h hm hf
      · first | refine jm_aload_n d_M_start_58 rfl ?_ | refine jm_aload_nN d_M_start_58 rfl ?_
        refine jm_iload_n d_M_start_59 rfl ?_
        refine mr_call (As := [_]) d_M_start_60 l_M_168 iw_M_findPart ew_M_findPart nv_M_findPart rfl (Nat.le_of_ble_eq_true rfl) (by omega : 3 + 1 ≤ _) (k_M_findPart (S := spF S n M a) (K := K a) (by omega) (by omega) e1 h8 m2 (by rw [e9]; exact m3)) hm hf (fun v9 S9 h hq hm hf => ?_)
        obtain ⟨rfl, rfl⟩ := hq
        rw [e9, ← m1] at hm
        rw [ef, en, if_neg hb55, if_neg hb55] at ek
        refine jm_iincL (v := nI (spN S n M a + 1)) d_M_start_63 rfl (by rw [nI_succ]; rfl) ?_
        refine jm_iincL (v := nI (a + 1)) d_M_start_66 rfl (by rw [nI_succ]; rfl) ?_
        refine jm_goto 41 d_M_start_69 (by decide) ?_
        exact ek h hm hf
theorem lp_M_st2 {rc rs n np : Nat} {h0 : jm_H} {Q : jm_O → jm_H → Prop} {w1 : Int32} (hd : 8 ≤ d) (h8 : n ≤ 8) (hn : ∀ a, a ≤ n → rkF S n np a 1 0 = nI n) (hp : ∀ a, a < n → nn (rkF S n np a) 10 a 7)
    (hH : ∀ a, a < n → rkF S n np a 11 (N (rkF S n np a) 10 a) = nI a → ∃ nl, hdK (rt0 (rkF S n np a) a (-1) 0) n a np nl)
    (hQ : ∀ h, mo h m ar (rkF S n np n) → mo_fr m ar h0 h → Q (.inl (some (.int w1))) h) :
    ∀ j a, a + j = n → ∀ h, mo h m ar (rkF S n np a) → mo_fr m ar h0 h → jm_W Γ m_M_start d rc rs Q 74 [some (.ref m), some (.int w1), some (.int (nI a))] [] h := by
  intro j
  induction j with
  | zero =>
    intro a ha h hm hf
    have ha' : a = n := by omega
    subst ha'
    have e1 := hn a (by omega)
    refine jm_iload_n d_M_start_74 rfl ?_
    first | refine jm_aload_n d_M_start_75 rfl ?_ | refine jm_aload_nN d_M_start_75 rfl ?_
    refine mr_geti d_M_start_76 f_M_124 hm (by decide) rfl ?_
    rw [e1]
    refine jm_icmp_ge 110 d_M_start_79 (by decide) (fun hb79 => ?_) (fun hb79 => ?_)
    · refine jm_iload_n d_M_start_110 rfl ?_
      exact jm_iret d_M_start_111 rfl (hQ h hm hf)
    · exact absurd (nI_le (by omega) (by omega)) hb79
  | succ j ih =>
    intro a ha h hm hf
    have e1 := hn a (by omega)
    obtain ⟨p1, p2⟩ := hp a (by omega)
    have hH' := hH a (by omega)
    have ek := ih (a + 1) (by omega)
    have ef : rkF S n np (a + 1) = if rkF S n np a 11 (N (rkF S n np a) 10 a) = nI a then hdC (rt0 (rkF S n np a) a (-1) 0) a n np else rkF S n np a := rfl
    rw [ef] at ek
    refine jm_iload_n d_M_start_74 rfl ?_
    first | refine jm_aload_n d_M_start_75 rfl ?_ | refine jm_aload_nN d_M_start_75 rfl ?_
    refine mr_geti d_M_start_76 f_M_124 hm (by decide) rfl ?_
    rw [e1]
    refine jm_icmp_ge 110 d_M_start_79 (by decide) (fun hb79 => ?_) (fun hb79 => ?_)
    · exact absurd hb79 (nI_ge (by omega) (by omega))
    · first | refine jm_aload_n d_M_start_82 rfl ?_ | refine jm_aload_nN d_M_start_82 rfl ?_
      refine mr_geta d_M_start_83 f_M_31 hm (by decide) (by decide) ?_
      first | refine jm_aload_n d_M_start_86 rfl ?_ | refine jm_aload_nN d_M_start_86 rfl ?_
      refine mr_geta d_M_start_87 f_M_28 hm (by decide) (by decide) ?_
      refine jm_iload_n d_M_start_90 rfl ?_
      refine mr_ldN _ d_M_start_91 hm (by decide) (by decide) rfl rfl (by simp only [mo_len]; omega) ?_
      refine mr_ldN _ d_M_start_92 hm (by decide) (by decide) rfl p1 (by simp only [mo_len]; omega) ?_
      refine jm_iload_n d_M_start_93 rfl ?_
      refine jm_icmp_ne 104 d_M_start_94 (by decide) (fun hb94 => ?_) (fun hb94 => ?_)
      · refine jm_iincL (v := nI (a + 1)) d_M_start_104 rfl (by rw [nI_succ]; rfl) ?_
        refine jm_goto 74 d_M_start_107 (by decide) ?_
        rw [if_neg hb94] at ek
        exact ek h hm hf
      · first | refine jm_aload_n d_M_start_97 rfl ?_ | refine jm_aload_nN d_M_start_97 rfl ?_
        refine jm_iload_n d_M_start_98 rfl ?_
        refine jm_iconstL (v := (-1)) d_M_start_99 (by decide) ?_
        refine jm_iconstL (v := 0) d_M_start_100 (by decide) ?_
        have hr := Decidable.not_not.mp hb94
        obtain ⟨nl, hK⟩ := hH' hr
        rw [if_pos hr] at ek
        refine mr_call (As := [_, _, _]) d_M_start_101 l_M_172 iw_M_receiveToken ew_M_receiveToken nv_M_receiveToken rfl (Nat.le_of_ble_eq_true rfl) (by omega : 7 + 1 ≤ _) (c_M_receiveToken (S := rkF S n np a) (n := n) (np := np) (nl := nl) (-1) 0 (by omega) hK) hm hf (fun v9 S9 h hq hm hf => ?_)
        obtain ⟨rfl, rfl⟩ := hq
        refine jm_iincL (v := nI (a + 1)) d_M_start_104 rfl (by rw [nI_succ]; rfl) ?_
        refine jm_goto 74 d_M_start_107 (by decide) ?_
        exact ek h hm hf
abbrev thStart (S : mS) : Int32 := if S 2 0 ≠ 0 ∨ S 1 0 = 0 then 1 else 0
abbrev st0 (S : mS) : mS := mu (mu S 0 0 0) 2 0 1
theorem k_M_start {n np : Nat} {M : Nat → Int32} {K : Nat → Nat} (hd : 8 ≤ d) (hn : S 1 0 = nI n) (h8 : n ≤ 8) (hM : thStart S = 0 → ∀ a, a < n → M a = itR (S 9) n (1 <<< (nI a &&& 31)) (K a) ∧ (1 <<< (nI a &&& 31) : Int32) ≠ 0 ∧ itR (S 9) n (1 <<< (nI a &&& 31)) (K a + 1) = itR (S 9) n (1 <<< (nI a &&& 31)) (K a)) (hR : thStart S = 0 → (∀ a, a ≤ n → rkF (spF (st0 S) n M n) n np a 1 0 = nI n) ∧ (∀ a, a < n → nn (rkF (spF (st0 S) n M n) n np a) 10 a 7) ∧ ∀ a, a < n → rkF (spF (st0 S) n M n) n np a 11 (N (rkF (spF (st0 S) n M n) n np a) 10 a) = nI a → ∃ nl, hdK (rt0 (rkF (spF (st0 S) n M n) n np a) a (-1) 0) n a np nl) : mM Γ m_M_start d m ar [] S (fun v9 S' => (thStart S = 1 ∧ S' = mu S 0 0 1 ∧ v9 = some (.int 0)) ∨ (thStart S = 0 ∧ S' = rkF (spF (st0 S) n M n) n np n ∧ v9 = some (.int (nI (spN (st0 S) n M n))))) := by
  intro h hm
  have hf : mo_fr m ar h h := mo_fr.rf
  have J : ∀ t, t = thStart S → ∀ h1, mo h1 m ar S → mo_fr m ar h h1 → jm_W Γ m_M_start d 0 0 (fun oc h' => ∃ v9 S', oc = .inl v9 ∧ ((thStart S = 1 ∧ S' = mu S 0 0 1 ∧ v9 = some (.int 0)) ∨ (thStart S = 0 ∧ S' = rkF (spF (st0 S) n M n) n np n ∧ v9 = some (.int (nI (spN (st0 S) n M n))))) ∧ mo h' m ar S' ∧ mo_fr m ar h h') 20 [some (.ref m), none, none] [.int t, .ref m] h1 := by
    intro t ht h1 hm1 hf1
    have hm := hm1
    have hf := hf1
    clear hm1 hf1
    refine mr_puti d_M_start_20 f_M_116 hm hf (by decide) rfl (fun h hm hf => ?_)
    first | refine jm_aload_n d_M_start_23 rfl ?_ | refine jm_aload_nN d_M_start_23 rfl ?_
    refine mr_geti d_M_start_24 f_M_116 hm (by decide) rfl ?_
    refine jm_if_le 32 d_M_start_27 (by decide) (fun hb27 => ?_) (fun hb27 => ?_)
    · have hz0 : t = 0 := by
        have q : t ≤ 0 := hb27
        rw [ht] at q ⊢
        by_cases hc : S 2 0 ≠ 0 ∨ S 1 0 = 0
        · rw [thStart, if_pos hc] at q; exact absurd q (by decide)
        · rw [thStart, if_neg hc]
      subst hz0
      obtain ⟨r1, r2, r3⟩ := hR ht.symm
      first | refine jm_aload_n d_M_start_32 rfl ?_ | refine jm_aload_nN d_M_start_32 rfl ?_
      refine jm_iconstL (v := 1) d_M_start_33 (by decide) ?_
      refine mr_putz d_M_start_34 f_M_135 hm hf (by decide) rfl rfl rfl (fun h hm hf => ?_)
      refine jm_iconstL (v := nI 0) d_M_start_37 (by decide) ?_
      refine jm_istore_n d_M_start_38 (Nat.le_of_ble_eq_true rfl) ?_
      refine jm_iconstL (v := nI 0) d_M_start_39 (by decide) ?_
      refine jm_istore_n d_M_start_40 (Nat.le_of_ble_eq_true rfl) ?_
      refine lp_M_st1 (S := st0 S) (M := M) (K := K) (by omega) hn h8 (hM ht.symm) (fun h hm hf x2 => ?_) n 0 (by omega) h hm hf
      refine jm_iconstL (v := nI 0) d_M_start_72 (by decide) ?_
      refine jm_istore_n d_M_start_73 (Nat.le_of_ble_eq_true rfl) ?_
      exact lp_M_st2 (S := spF (st0 S) n M n) (np := np) hd h8 r1 r2 r3 (fun h hm hf => ⟨_, _, rfl, Or.inr ⟨ht.symm, rfl, rfl⟩, hm, hf⟩) n 0 (by omega) h hm hf
    · have ht1 : t = 1 := by
        have q : ¬ t ≤ 0 := hb27
        rw [ht] at q ⊢
        by_cases hc : S 2 0 ≠ 0 ∨ S 1 0 = 0
        · rw [thStart, if_pos hc]
        · rw [thStart, if_neg hc] at q; exact absurd (by decide) q
      refine jm_iconstL (v := 0) d_M_start_30 (by decide) ?_
      exact jm_iret d_M_start_31 rfl ⟨_, _, rfl, Or.inl ⟨by rw [← ht, ht1], by rw [ht1], rfl⟩, hm, hf⟩
  refine jm_entry (by decide +kernel) (List.forall_mem_cons.mpr ⟨rfl, fun _ h => nomatch h⟩) (Nat.le_of_ble_eq_true rfl) ?_
  show jm_W _ _ _ _ _ _ 0 [some (.ref m), none, none] [] _
  first | refine jm_aload_n d_M_start_0 rfl ?_ | refine jm_aload_nN d_M_start_0 rfl ?_
  first | refine jm_aload_n d_M_start_1 rfl ?_ | refine jm_aload_nN d_M_start_1 rfl ?_
  refine mr_geti d_M_start_2 f_M_135 hm (by decide) rfl ?_
  first | refine jm_bz_ne 15 d_M_start_5 (by decide) (fun hb5 => ?_) (fun hb5 => ?_) | refine jm_if_ne 15 d_M_start_5 (by decide) (fun hb5 => ?_) (fun hb5 => ?_)
  · refine jm_iconstL (v := 1) d_M_start_15 (by decide) ?_
    refine jm_goto 20 d_M_start_16 (by decide) ?_
    first | exact J _ (by rw [thStart, if_pos (Or.inl hb5)]) h hm hf | exact J _ (by rw [thStart, if_pos (Or.inr (Decidable.not_not.mp hb12))]) h hm hf
  · first | refine jm_aload_n d_M_start_8 rfl ?_ | refine jm_aload_nN d_M_start_8 rfl ?_
    refine mr_geti d_M_start_9 f_M_124 hm (by decide) rfl ?_
    first | refine jm_bz_ne 19 d_M_start_12 (by decide) (fun hb12 => ?_) (fun hb12 => ?_) | refine jm_if_ne 19 d_M_start_12 (by decide) (fun hb12 => ?_) (fun hb12 => ?_)
    · refine jm_iconstL (v := 0) d_M_start_19 (by decide) ?_
      exact J _ (by rw [thStart, if_neg (fun q => q.elim (fun z => z (Decidable.not_not.mp hb5)) hb12)]) h hm hf
    · refine jm_iconstL (v := 1) d_M_start_15 (by decide) ?_
      refine jm_goto 20 d_M_start_16 (by decide) ?_
      first | exact J _ (by rw [thStart, if_pos (Or.inl hb5)]) h hm hf | exact J _ (by rw [thStart, if_pos (Or.inr (Decidable.not_not.mp hb12))]) h hm hf
end
