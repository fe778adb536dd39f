/-! THE REFERENCE: letter, again. Written by wip/whole/gen/p38.py -/
section
variable {Γ : jm_G} {d m : Nat} {ar : Nat → Nat} {S : mS} {h : jm_H}
def thLet (S : mS) (k x : Int32) : Int32 := if ¬ (0 ≤ x ∧ x ≤ 2) then 1 else if ¬ (0 ≤ k ∧ k ≤ S 34 0 - 1) then 2 else if x = 2 ∧ S 34 0 = 20 then 3 else 0
theorem thLet_le {k x : Int32} : thLet S k x ≤ 0 ↔ thLet S k x = 0 := by
  unfold thLet
  split
  · decide
  · split
    · decide
    · split <;> decide
theorem thLet_0 {k x : Int32} : thLet S k x = 0 ↔ (0 ≤ x ∧ x ≤ 2) ∧ (0 ≤ k ∧ k ≤ S 34 0 - 1) ∧ ¬ (x = 2 ∧ S 34 0 = 20) := by
  unfold thLet
  split
  · rename_i q; exact iff_of_false (by decide) (fun z => q z.1)
  · rename_i q0
    split
    · rename_i q; exact iff_of_false (by decide) (fun z => q z.2.1)
    · rename_i q1
      split
      · rename_i q; exact iff_of_false (by decide) (fun z => z.2.2 q)
      · rename_i q; exact iff_of_true rfl ⟨Decidable.not_not.mp q0, Decidable.not_not.mp q1, q⟩
/-- the letters behind place k come one place nearer -/
def shL (S : mS) (k : Nat) : Nat → mS
  | 0 => S
  | j + 1 => cpL (shL S k j) (k + 1 + j) (k + j)
theorem cpL_lo {k l j : Nat} (hj : j < 35) : cpL S k l j = S j := by
  funext i
  simp only [cpL, cpB, cp6, mu]
  rw [if_neg (by omega), if_neg (by omega), if_neg (by omega), if_neg (by omega), if_neg (by omega), if_neg (by omega), if_neg (by omega)]
theorem shL_lo {k j : Nat} (hj : j < 35) : ∀ i, shL S k i j = S j
  | 0 => rfl
  | i + 1 => (cpL_lo hj).trans (shL_lo hj i)
/-- letter k is taken out, and lies at place 20 -/
def dl0 (S : mS) (k nl : Nat) : mS := mu (shL (cpL (mu S 0 0 0) k 20) k (nl - 1 - k)) 34 0 (nI (nl - 1))
theorem lp_M_shift {rc rs k nl : Nat} {T : mS} {h0 : jm_H} {Q : jm_O → jm_H → Prop} {w1 w2 : Option Value} (hd : 1 ≤ d) (hk : k < nl) (h20 : nl ≤ 20) (hT : T 34 0 = nI nl)
    (hQ : ∀ h, mo h m ar (shL T k (nl - 1 - k)) → mo_fr m ar h0 h → ∀ x3, jm_W Γ m_M_letter d rc rs Q 125 [some (.ref m), w1, w2, x3] [] h) :
    ∀ j i, i + j = nl - 1 - k → ∀ h, mo h m ar (shL T k i) → mo_fr m ar h0 h → jm_W Γ m_M_letter d rc rs Q 103 [some (.ref m), w1, w2, some (.int (nI (k + 1 + i)))] [] h := by
  intro j
  induction j with
  | zero =>
    intro i hi h hm hf
    have hi' : i = nl - 1 - k := by omega
    subst hi'
    have e34 : shL T k (nl - 1 - k) 34 0 = nI nl := (congrFun (shL_lo (by decide) _) 0).trans hT
    refine jm_iload_n d_M_letter_103 rfl ?_
    first | refine jm_aload_n d_M_letter_104 rfl ?_ | refine jm_aload_nN d_M_letter_104 rfl ?_
    refine mr_geti d_M_letter_105 f_M_176 hm (by decide) rfl ?_
    rw [e34]
    refine jm_icmp_ge 125 d_M_letter_108 (by decide) (fun hb108 => ?_) (fun hb108 => ?_)
    · exact hQ h hm hf _
    · exact absurd (nI_le (by omega) (by omega)) hb108
  | succ j ih =>
    intro i hi h hm hf
    have e34 : shL T k i 34 0 = nI nl := (congrFun (shL_lo (by decide) _) 0).trans hT
    have e1 : nI (k + 1 + i) - 1 = nI (k + i) := by rw [show k + 1 + i = (k + i) + 1 by omega, nI_pred]
    refine jm_iload_n d_M_letter_103 rfl ?_
    first | refine jm_aload_n d_M_letter_104 rfl ?_ | refine jm_aload_nN d_M_letter_104 rfl ?_
    refine mr_geti d_M_letter_105 f_M_176 hm (by decide) rfl ?_
    rw [e34]
    refine jm_icmp_ge 125 d_M_letter_108 (by decide) (fun hb108 => ?_) (fun hb108 => ?_)
    · exact absurd hb108 (nI_ge (by omega) (by omega))
    · first | refine jm_aload_n d_M_letter_111 rfl ?_ | refine jm_aload_nN d_M_letter_111 rfl ?_
      refine jm_iload_n d_M_letter_112 rfl ?_
      refine jm_iload_n d_M_letter_113 rfl ?_
      refine jm_iconstL (v := 1) d_M_letter_114 (by decide) ?_
      refine jm_isub d_M_letter_115 ?_
      rw [e1]
      refine mr_call (As := [_, _]) d_M_letter_116 l_M_223 iw_M_copyLetter ew_M_copyLetter nv_M_copyLetter rfl (Nat.le_of_ble_eq_true rfl) (by omega : 0 + 1 ≤ _) (k_M_copyLetter (k := k + 1 + i) (l := k + i) (by omega) (by omega) (by omega)) hm hf (fun v9 S9 h hq hm hf => ?_)
      obtain ⟨rfl, rfl⟩ := hq
      refine jm_iincL (v := nI (k + 1 + (i + 1))) d_M_letter_119 rfl (by rw [show k + 1 + (i + 1) = (k + 1 + i) + 1 by omega, nI_succ]; rfl) ?_
      refine jm_goto 103 d_M_letter_122 (by decide) ?_
      exact ih (i + 1) (by omega) h hm hf
theorem k_M_letter {n np nl : Nat} (k x : Int32) (hd : 9 ≤ d) (hn : S 34 0 = nI nl) (h20 : nl ≤ 20) (hdv : ∀ q, q < nl → k = nI q → x = 0 → dvH (dl0 S q nl) n np (N S 37 q) (N S 36 q) (nl - 1)) : mM Γ m_M_letter d m ar [.int k, .int x] S (fun v9 S' => (thLet S k x ≠ 0 ∧ S' = mu S 0 0 (thLet S k x) ∧ v9 = some (.int 0)) ∨ (thLet S k x = 0 ∧ ∃ q, q < nl ∧ k = nI q ∧ ((x = 2 ∧ nl < 20 ∧ S' = mu (cpL (mu S 0 0 0) q nl) 34 0 (nI (nl + 1)) ∧ v9 = some (.int (nI (nl + 1)))) ∨ (x = 1 ∧ S' = dl0 S q nl ∧ v9 = some (.int (nI (nl - 1)))) ∨ (x = 0 ∧ S' = dvS (dl0 S q nl) n np (N S 37 q) (N S 36 q) ∧ v9 = some (.int (S' 34 0)))))) := by
  intro h hm
  have hf : mo_fr m ar h h := mo_fr.rf
  have J : ∀ t, t = thLet S k x → ∀ h1, mo h1 m ar S → mo_fr m ar h h1 → jm_W Γ m_M_letter d 0 0 (fun oc h' => ∃ v9 S', oc = .inl v9 ∧ ((thLet S k x ≠ 0 ∧ S' = mu S 0 0 (thLet S k x) ∧ v9 = some (.int 0)) ∨ (thLet S k x = 0 ∧ ∃ q, q < nl ∧ k = nI q ∧ ((x = 2 ∧ nl < 20 ∧ S' = mu (cpL (mu S 0 0 0) q nl) 34 0 (nI (nl + 1)) ∧ v9 = some (.int (nI (nl + 1)))) ∨ (x = 1 ∧ S' = dl0 S q nl ∧ v9 = some (.int (nI (nl - 1)))) ∨ (x = 0 ∧ S' = dvS (dl0 S q nl) n np (N S 37 q) (N S 36 q) ∧ v9 = some (.int (S' 34 0)))))) ∧ mo h' m ar S' ∧ mo_fr m ar h h') 51 [some (.ref m), some (.int k), some (.int x), none] [.int t, .ref m] h1 := by
    intro t ht h1 hm1 hf1
    have hm := hm1
    have hf := hf1
    clear hm1 hf1
    refine mr_puti d_M_letter_51 f_M_116 hm hf (by decide) rfl (fun h hm hf => ?_)
    first | refine jm_aload_n d_M_letter_54 rfl ?_ | refine jm_aload_nN d_M_letter_54 rfl ?_
    refine mr_geti d_M_letter_55 f_M_116 hm (by decide) rfl ?_
    refine jm_if_le 63 d_M_letter_58 (by decide) (fun hb58 => ?_) (fun hb58 => ?_)
    · have hz0 : t = 0 := (by have q : t ≤ 0 := hb58; rw [ht] at q ⊢; exact thLet_le.mp q)
      subst hz0
      obtain ⟨qx, qk, qf⟩ := thLet_0.mp ht.symm
      obtain ⟨q, hq1, rfl⟩ := lt_ix hn h20 qk
      have e34 : mu S 0 0 0 34 0 = nI nl := hn
      refine jm_iload_n d_M_letter_63 rfl ?_
      refine jm_iconstL (v := 2) d_M_letter_64 (by decide) ?_
      refine jm_icmp_ne 92 d_M_letter_65 (by decide) (fun hb65 => ?_) (fun hb65 => ?_)
      · first | refine jm_aload_n d_M_letter_92 rfl ?_ | refine jm_aload_nN d_M_letter_92 rfl ?_
        refine jm_iload_n d_M_letter_93 rfl ?_
        refine jm_bipushL (v := nI 20) d_M_letter_94 (by decide) ?_
        refine mr_call (As := [_, _]) d_M_letter_96 l_M_223 iw_M_copyLetter ew_M_copyLetter nv_M_copyLetter rfl (Nat.le_of_ble_eq_true rfl) (by omega : 0 + 1 ≤ _) (k_M_copyLetter (k := q) (l := 20) (by omega) (by omega) (by omega)) hm hf (fun v9 S9 h hq hm hf => ?_)
        obtain ⟨rfl, rfl⟩ := hq
        have e34' : cpL (mu S 0 0 0) q 20 34 0 = nI nl := (congrFun (cpL_lo (by decide)) 0).trans hn
        refine jm_iload_n d_M_letter_99 rfl ?_
        refine jm_iconstL (v := 1) d_M_letter_100 (by decide) ?_
        refine jm_iadd d_M_letter_101 ?_
        rw [nI_1]
        refine jm_istore_n d_M_letter_102 (Nat.le_of_ble_eq_true rfl) ?_
        refine lp_M_shift (T := cpL (mu S 0 0 0) q 20) (by omega) hq1 h20 e34' (fun h hm hf x3 => ?_) (nl - 1 - q) 0 (by omega) h hm hf
        have e34s : shL (cpL (mu S 0 0 0) q 20) q (nl - 1 - q) 34 0 = nI nl := (congrFun (shL_lo (by decide) _) 0).trans e34'
        have ep : nI nl - 1 = nI (nl - 1) := by rw [show nl = (nl - 1) + 1 by omega, nI_pred]; rfl
        first | refine jm_aload_n d_M_letter_125 rfl ?_ | refine jm_aload_nN d_M_letter_125 rfl ?_
        refine jm_dup d_M_letter_126 rfl ?_
        refine mr_geti d_M_letter_127 f_M_176 hm (by decide) rfl ?_
        rw [e34s]
        refine jm_iconstL (v := 1) d_M_letter_130 (by decide) ?_
        refine jm_isub d_M_letter_131 ?_
        rw [ep]
        refine mr_puti d_M_letter_132 f_M_176 hm hf (by decide) rfl (fun h hm hf => ?_)
        refine jm_iload_n d_M_letter_135 rfl ?_
        first | refine jm_bz_ne 143 d_M_letter_136 (by decide) (fun hb136 => ?_) (fun hb136 => ?_) | refine jm_if_ne 143 d_M_letter_136 (by decide) (fun hb136 => ?_) (fun hb136 => ?_)
        · have hm : mo h m ar (dl0 S q nl) := hm
          have hx1 : x = 1 := by
            have h3 := qx.2
            have h2 : ¬ x = 2 := hb65
            have h1 : ¬ x = 0 := hb136
            have h0 := qx.1
            simp only [Int32.le_iff_toInt_le, ← Int32.toInt_inj, Int32.reduceToInt] at *
            omega
          have ed : dl0 S q nl 34 0 = nI (nl - 1) := by simp [dl0, mu]
          first | refine jm_aload_n d_M_letter_143 rfl ?_ | refine jm_aload_nN d_M_letter_143 rfl ?_
          refine mr_geti d_M_letter_144 f_M_176 hm (by decide) rfl ?_
          rw [ed]
          exact jm_iret d_M_letter_147 rfl ⟨_, _, rfl, Or.inr ⟨ht.symm, q, hq1, rfl, Or.inr (Or.inl ⟨hx1, rfl, rfl⟩)⟩, hm, hf⟩
        · first | refine jm_aload_n d_M_letter_139 rfl ?_ | refine jm_aload_nN d_M_letter_139 rfl ?_
          have hm : mo h m ar (dl0 S q nl) := hm
          have hx0 : x = 0 := Decidable.not_not.mp hb136
          refine mr_call (As := []) d_M_letter_140 l_M_226 iw_M_deliver ew_M_deliver nv_M_deliver rfl (Nat.le_of_ble_eq_true rfl) (by omega : 8 + 1 ≤ _) (k_M_deliver (S := dl0 S q nl) (n := n) (np := np) (nl := nl - 1) (by omega) (hdv q hq1 rfl hx0)) hm hf (fun v9 S9 h hq hm hf => ?_)
          obtain ⟨rfl, rfl⟩ := hq
          first | refine jm_aload_n d_M_letter_143 rfl ?_ | refine jm_aload_nN d_M_letter_143 rfl ?_
          refine mr_geti d_M_letter_144 f_M_176 hm (by decide) rfl ?_
          exact jm_iret d_M_letter_147 rfl ⟨_, _, rfl, Or.inr ⟨ht.symm, q, hq1, rfl, Or.inr (Or.inr ⟨hx0, rfl, rfl⟩)⟩, hm, hf⟩
      · first | refine jm_aload_n d_M_letter_68 rfl ?_ | refine jm_aload_nN d_M_letter_68 rfl ?_
        refine jm_iload_n d_M_letter_69 rfl ?_
        first | refine jm_aload_n d_M_letter_70 rfl ?_ | refine jm_aload_nN d_M_letter_70 rfl ?_
        refine mr_geti d_M_letter_71 f_M_176 hm (by decide) rfl ?_
        have hx2 : x = 2 := Decidable.not_not.mp hb65
        have hlt : nl < 20 := by
          rcases Nat.lt_or_ge nl 20 with z | z
          · exact z
          · exact absurd ⟨hx2, by rw [hn, show nl = 20 by omega]; rfl⟩ qf
        rw [e34]
        refine mr_call (As := [_, _]) d_M_letter_74 l_M_223 iw_M_copyLetter ew_M_copyLetter nv_M_copyLetter rfl (Nat.le_of_ble_eq_true rfl) (by omega : 0 + 1 ≤ _) (k_M_copyLetter (k := q) (l := nl) (by omega) (by omega) (by omega)) hm hf (fun v9 S9 h hq hm hf => ?_)
        obtain ⟨rfl, rfl⟩ := hq
        have e34' : cpL (mu S 0 0 0) q nl 34 0 = nI nl := (congrFun (cpL_lo (by decide)) 0).trans hn
        first | refine jm_aload_n d_M_letter_77 rfl ?_ | refine jm_aload_nN d_M_letter_77 rfl ?_
        refine jm_dup d_M_letter_78 rfl ?_
        refine mr_geti d_M_letter_79 f_M_176 hm (by decide) rfl ?_
        rw [e34']
        refine jm_iconstL (v := 1) d_M_letter_82 (by decide) ?_
        refine jm_iadd d_M_letter_83 ?_
        rw [nI_1]
        refine mr_puti d_M_letter_84 f_M_176 hm hf (by decide) rfl (fun h hm hf => ?_)
        first | refine jm_aload_n d_M_letter_87 rfl ?_ | refine jm_aload_nN d_M_letter_87 rfl ?_
        refine mr_geti d_M_letter_88 f_M_176 hm (by decide) rfl ?_
        exact jm_iret d_M_letter_91 rfl ⟨_, _, rfl, Or.inr ⟨ht.symm, q, hq1, rfl, Or.inl ⟨hx2, hlt, rfl, rfl⟩⟩, hm, hf⟩
    · refine jm_iconstL (v := 0) d_M_letter_61 (by decide) ?_
      exact jm_iret d_M_letter_62 rfl ⟨_, _, rfl, Or.inl ⟨fun q => hb58 (by show t ≤ 0; rw [ht, q]; decide), by rw [← ht], rfl⟩, hm, hf⟩
  refine jm_entry (by decide +kernel) (List.forall_mem_cons.mpr ⟨rfl, List.forall_mem_cons.mpr ⟨rfl, List.forall_mem_cons.mpr ⟨rfl, fun _ h => nomatch h⟩⟩⟩) (Nat.le_of_ble_eq_true rfl) ?_
  show jm_W _ _ _ _ _ _ 0 [some (.ref m), some (.int k), some (.int x), none] [] _
  first | refine jm_aload_n d_M_letter_0 rfl ?_ | refine jm_aload_nN d_M_letter_0 rfl ?_
  refine jm_iload_n d_M_letter_1 rfl ?_
  refine jm_iconstL (v := 0) d_M_letter_2 (by decide) ?_
  refine jm_iconstL (v := 2) d_M_letter_3 (by decide) ?_
  refine jm_callSp (As := [_, _, _]) d_M_letter_4 l_M_127 sw_M_within nv_M_within rfl (Nat.le_of_ble_eq_true rfl) (by omega : 0 + 1 ≤ _) (k_M_within _ _ _) ?_
  first | refine jm_bz_ne 14 d_M_letter_7 (by decide) (fun hb7 => ?_) (fun hb7 => ?_) | refine jm_if_ne 14 d_M_letter_7 (by decide) (fun hb7 => ?_) (fun hb7 => ?_)
  · refine jm_iload_n d_M_letter_14 rfl ?_
    refine jm_iconstL (v := 0) d_M_letter_15 (by decide) ?_
    first | refine jm_aload_n d_M_letter_16 rfl ?_ | refine jm_aload_nN d_M_letter_16 rfl ?_
    refine mr_geti d_M_letter_17 f_M_176 hm (by decide) rfl ?_
    refine jm_iconstL (v := 1) d_M_letter_20 (by decide) ?_
    refine jm_isub d_M_letter_21 ?_
    refine jm_callSp (As := [_, _, _]) d_M_letter_22 l_M_127 sw_M_within nv_M_within rfl (Nat.le_of_ble_eq_true rfl) (by omega : 0 + 1 ≤ _) (k_M_within _ _ _) ?_
    first | refine jm_bz_ne 32 d_M_letter_25 (by decide) (fun hb25 => ?_) (fun hb25 => ?_) | refine jm_if_ne 32 d_M_letter_25 (by decide) (fun hb25 => ?_) (fun hb25 => ?_)
    · refine jm_iload_n d_M_letter_32 rfl ?_
      refine jm_iconstL (v := 2) d_M_letter_33 (by decide) ?_
      refine jm_icmp_ne 50 d_M_letter_34 (by decide) (fun hb34 => ?_) (fun hb34 => ?_)
      · refine jm_iconstL (v := 0) d_M_letter_50 (by decide) ?_
        exact J _ (by rw [thLet, if_neg (fun q => q hb7), if_neg (fun q => q hb25), if_neg (fun q => by first | exact hb34 q.1 | exact hb43 q.2)]) h hm hf
      · first | refine jm_aload_n d_M_letter_37 rfl ?_ | refine jm_aload_nN d_M_letter_37 rfl ?_
        refine mr_geti d_M_letter_38 f_M_176 hm (by decide) rfl ?_
        refine jm_bipushL (v := 20) d_M_letter_41 (by decide) ?_
        refine jm_icmp_ne 50 d_M_letter_43 (by decide) (fun hb43 => ?_) (fun hb43 => ?_)
        · refine jm_iconstL (v := 0) d_M_letter_50 (by decide) ?_
          exact J _ (by rw [thLet, if_neg (fun q => q hb7), if_neg (fun q => q hb25), if_neg (fun q => by first | exact hb34 q.1 | exact hb43 q.2)]) h hm hf
        · refine jm_iconstL (v := 3) d_M_letter_46 (by decide) ?_
          refine jm_goto 51 d_M_letter_47 (by decide) ?_
          exact J _ (by rw [thLet, if_neg (fun q => q hb7), if_neg (fun q => q hb25), if_pos ⟨Decidable.not_not.mp hb34, Decidable.not_not.mp hb43⟩]) h hm hf
    · refine jm_iconstL (v := 2) d_M_letter_28 (by decide) ?_
      refine jm_goto 51 d_M_letter_29 (by decide) ?_
      exact J _ (by rw [thLet, if_neg (fun q => q hb7), if_pos hb25]) h hm hf
  · refine jm_iconstL (v := 1) d_M_letter_10 (by decide) ?_
    refine jm_goto 51 d_M_letter_11 (by decide) ?_
    exact J _ (by rw [thLet, if_pos hb7]) h hm hf
theorem pt_lo {k j : Nat} (hj : j < 34) : ptS S k j = S j := by
  funext i
  unfold ptS
  split
  · rfl
  · simp only [cpB, mu]
    rw [if_neg (by omega), if_neg (by omega), if_neg (by omega), post_lo hj]
theorem pt_nl {k nl : Nat} (hn : S 34 0 = nI nl) (h20 : nl ≤ 20) : ∃ nl', nl' ≤ 20 ∧ ptS S k 34 0 = nI nl' := by
  unfold ptS
  split
  · exact ⟨nl, h20, hn⟩
  · rename_i q
    refine ⟨nl + 1, ?_, ?_⟩
    · rcases Nat.lt_or_ge nl 20 with z | z
      · exact z
      · exact absurd (by rw [hn, show nl = 20 by omega]; rfl) q
    · show S 34 0 + 1 = _
      rw [hn, nI_1]
/-- a sends again, one after another -/
abbrev ag1 (S : mS) (a : Nat) : mS := if S 19 a < 0 then S else pstS S 0 (nI a) (S 19 a) (S 18 a)
abbrev ag2 (S : mS) (a : Nat) : mS := if S 14 a = 0 ∨ S 16 a < 0 then S else pstS S 1 (nI a) (S 16 a) (S 18 a)
abbrev ag3 (S : mS) (a : Nat) : mS := if S 23 a ≤ 0 ∨ S 16 a < 0 then S else ptS S a
abbrev ag4 (S : mS) (a cc : Nat) : mS := if S 28 a ≤ 0 then S else pcF S a cc
abbrev agS (S : mS) (a cc : Nat) : mS := ag4 (ag3 (ag2 (ag1 S a) a) a) a cc
abbrev thAgain (S : mS) (a : Int32) : Int32 := thF (¬ isAgentS S a) (S 2 0 = 0)
theorem agr {p : Prop} [Decidable p] {A B : mS} {nl : Nat} (hA : (∀ j, j < 34 → A j = S j) ∧ ∃ nl', nl' ≤ 20 ∧ A 34 0 = nI nl') (hB : (∀ j, j < 34 → B j = S j) ∧ ∃ nl', nl' ≤ 20 ∧ B 34 0 = nI nl') : (∀ j, j < 34 → (if p then A else B) j = S j) ∧ ∃ nl', nl' ≤ 20 ∧ (if p then A else B) 34 0 = nI nl' := by
  split
  · exact hA
  · exact hB
theorem ag1_r {a nl : Nat} (hn : S 34 0 = nI nl) (h20 : nl ≤ 20) : (∀ j, j < 34 → ag1 S a j = S j) ∧ ∃ nl', nl' ≤ 20 ∧ ag1 S a 34 0 = nI nl' := agr (nl := nl) ⟨fun _ _ => rfl, nl, h20, hn⟩ ⟨fun _ h => pst_lo h, pst_nl hn h20⟩
theorem ag2_r {a nl : Nat} (hn : S 34 0 = nI nl) (h20 : nl ≤ 20) : (∀ j, j < 34 → ag2 S a j = S j) ∧ ∃ nl', nl' ≤ 20 ∧ ag2 S a 34 0 = nI nl' := agr (nl := nl) ⟨fun _ _ => rfl, nl, h20, hn⟩ ⟨fun _ h => pst_lo h, pst_nl hn h20⟩
theorem ag3_r {a nl : Nat} (hn : S 34 0 = nI nl) (h20 : nl ≤ 20) : (∀ j, j < 34 → ag3 S a j = S j) ∧ ∃ nl', nl' ≤ 20 ∧ ag3 S a 34 0 = nI nl' := agr (nl := nl) ⟨fun _ _ => rfl, nl, h20, hn⟩ ⟨fun _ h => pt_lo h, pt_nl hn h20⟩
theorem lp_M_again {a n nl : Nat} {h0 : jm_H} {Q0 : jm_O → jm_H → Prop} (hd : 2 ≤ d) (ha8 : a < 8) (hn : S 34 0 = nI nl) (h20 : nl ≤ 20) (h21 : S 21 a = nI (N S 21 a)) (hc8 : N S 21 a ≤ 8) (h25 : ¬ S 23 a ≤ 0 → ∃ w, S 25 a = nI w ∧ w ≤ 256) (hm : mo h m ar (mu S 0 0 0)) (hf : mo_fr m ar h0 h)
    (hQ0 : ∀ h S', S' = agS (mu S 0 0 0) a (N S 21 a) → mo h m ar S' → mo_fr m ar h0 h → Q0 (.inl (some (.int (S' 34 0)))) h) : ∀ x2, jm_W Γ m_M_again d 0 0 Q0 37 [some (.ref m), some (.int (nI a)), x2] [] h := by
  intro x2
  obtain ⟨r1, nl1, hl1, hn1⟩ := ag1_r (S := mu S 0 0 0) (a := a) hn h20
  have z1 : ∀ j i, j < 34 → ag1 (mu S 0 0 0) a j i = mu S 0 0 0 j i := fun j i hj => congrFun (r1 j hj) i
  obtain ⟨r2, nl2, hl2, hn2⟩ := ag2_r (S := ag1 (mu S 0 0 0) a) (a := a) hn1 hl1
  have z2 : ∀ j i, j < 34 → ag2 (ag1 (mu S 0 0 0) a) a j i = mu S 0 0 0 j i := fun j i hj => (congrFun (r2 j hj) i).trans (z1 j i hj)
  obtain ⟨r3, nl3, hl3, hn3⟩ := ag3_r (S := ag2 (ag1 (mu S 0 0 0) a) a) (a := a) hn2 hl2
  have z3 : ∀ j i, j < 34 → ag3 (ag2 (ag1 (mu S 0 0 0) a) a) a j i = mu S 0 0 0 j i := fun j i hj => (congrFun (r3 j hj) i).trans (z2 j i hj)
  have K4 : ∀ h, mo h m ar (ag3 (ag2 (ag1 (mu S 0 0 0) a) a) a) → mo_fr m ar h0 h → ∀ x2, jm_W Γ m_M_again d 0 0 Q0 125 [some (.ref m), some (.int (nI a)), x2] [] h := by
    intro h hm hf x2
    generalize hU : ag3 (ag2 (ag1 (mu S 0 0 0) a) a) a = U at *
    have e28 : U 28 a = S 28 a := z3 28 a (by decide)
    first | refine jm_aload_n d_M_again_125 rfl ?_ | refine jm_aload_nN d_M_again_125 rfl ?_
    refine mr_geta d_M_again_126 f_M_80 hm (by decide) (by decide) ?_
    refine jm_iload_n d_M_again_129 rfl ?_
    refine mr_ldN _ d_M_again_130 hm (by decide) (by decide) rfl rfl (by simp only [mo_len]; omega) ?_
    refine jm_if_le 139 d_M_again_131 (by decide) (fun hb131 => ?_) (fun hb131 => ?_)
    · first | refine jm_aload_n d_M_again_139 rfl ?_ | refine jm_aload_nN d_M_again_139 rfl ?_
      refine mr_geti d_M_again_140 f_M_176 hm (by decide) rfl ?_
      exact jm_iret d_M_again_143 rfl (hQ0 _ _ (by rw [agS, hU, ag4, if_pos hb131]) hm hf)
    · first | refine jm_aload_n d_M_again_134 rfl ?_ | refine jm_aload_nN d_M_again_134 rfl ?_
      refine jm_iload_n d_M_again_135 rfl ?_
      refine mr_call (As := [_]) d_M_again_136 l_M_220 iw_M_postChoices ew_M_postChoices nv_M_postChoices rfl (Nat.le_of_ble_eq_true rfl) (by omega : 1 + 1 ≤ _) (k_M_postChoices (nl := nl3) (cc := N S 21 a) (by omega) ha8 hn3 hl3 ((z3 21 a (by decide)).trans h21) hc8) hm hf (fun v9 S9 h hq hm hf => ?_)
      obtain ⟨rfl, rfl⟩ := hq
      first | refine jm_aload_n d_M_again_139 rfl ?_ | refine jm_aload_nN d_M_again_139 rfl ?_
      refine mr_geti d_M_again_140 f_M_176 hm (by decide) rfl ?_
      exact jm_iret d_M_again_143 rfl (hQ0 _ _ (by rw [agS, hU, ag4, if_neg hb131]) hm hf)
  have K3 : ∀ h, mo h m ar (ag2 (ag1 (mu S 0 0 0) a) a) → mo_fr m ar h0 h → ∀ x2, jm_W Γ m_M_again d 0 0 Q0 102 [some (.ref m), some (.int (nI a)), x2] [] h := by
    intro h hm hf x2
    clear r3 hn3 hl3 z3
    generalize hU : ag2 (ag1 (mu S 0 0 0) a) a = U at *
    first | refine jm_aload_n d_M_again_102 rfl ?_ | refine jm_aload_nN d_M_again_102 rfl ?_
    refine mr_geta d_M_again_103 f_M_68 hm (by decide) (by decide) ?_
    refine jm_iload_n d_M_again_106 rfl ?_
    refine mr_ldN _ d_M_again_107 hm (by decide) (by decide) rfl rfl (by simp only [mo_len]; omega) ?_
    refine jm_if_le 125 d_M_again_108 (by decide) (fun hb108 => ?_) (fun hb108 => ?_)
    · exact K4 h (by rw [ag3, if_pos (Or.inl hb108)]; exact hm) hf _
    · first | refine jm_aload_n d_M_again_111 rfl ?_ | refine jm_aload_nN d_M_again_111 rfl ?_
      refine mr_geta d_M_again_112 f_M_47 hm (by decide) (by decide) ?_
      refine jm_iload_n d_M_again_115 rfl ?_
      refine mr_ldN _ d_M_again_116 hm (by decide) (by decide) rfl rfl (by simp only [mo_len]; omega) ?_
      refine jm_if_lt 125 d_M_again_117 (by decide) (fun hb117 => ?_) (fun hb117 => ?_)
      · exact K4 h (by rw [ag3, if_pos (Or.inr hb117)]; exact hm) hf _
      · first | refine jm_aload_n d_M_again_120 rfl ?_ | refine jm_aload_nN d_M_again_120 rfl ?_
        refine jm_iload_n d_M_again_121 rfl ?_
        obtain ⟨w, hw1, hw2⟩ := h25 (fun q => hb108 (by rw [z2 23 a (by decide)]; exact q))
        refine mr_call (As := [_]) d_M_again_122 l_M_214 iw_M_postTable ew_M_postTable nv_M_postTable rfl (Nat.le_of_ble_eq_true rfl) (by omega : 1 + 1 ≤ _) (k_M_postTable (nl := nl2) (w := w) (by omega) ha8 hn2 hl2 ((z2 25 a (by decide)).trans hw1) hw2) hm hf (fun v9 S9 h hq hm hf => ?_)
        obtain ⟨rfl, rfl⟩ := hq
        exact K4 h (by rw [ag3, if_neg (fun q => q.elim hb108 hb117)]; exact hm) hf _
  have K2 : ∀ h, mo h m ar (ag1 (mu S 0 0 0) a) → mo_fr m ar h0 h → ∀ x2, jm_W Γ m_M_again d 0 0 Q0 65 [some (.ref m), some (.int (nI a)), x2] [] h := by
    intro h hm hf x2
    clear K4 r3 hn3 hl3 z3 r2 hn2 hl2 z2
    generalize hU : ag1 (mu S 0 0 0) a = U at *
    first | refine jm_aload_n d_M_again_65 rfl ?_ | refine jm_aload_nN d_M_again_65 rfl ?_
    refine mr_geta d_M_again_66 f_M_41 hm (by decide) (by decide) ?_
    refine jm_iload_n d_M_again_69 rfl ?_
    refine mr_ldzN _ d_M_again_70 hm (by decide) (by decide) rfl rfl (by simp only [mo_len]; omega) ?_
    first | refine jm_bz_eq 102 d_M_again_71 (by decide) (fun hb71 => ?_) (fun hb71 => ?_) | refine jm_if_eq 102 d_M_again_71 (by decide) (fun hb71 => ?_) (fun hb71 => ?_)
    · exact K3 h (by rw [ag2, if_pos (Or.inl hb71)]; exact hm) hf _
    · first | refine jm_aload_n d_M_again_74 rfl ?_ | refine jm_aload_nN d_M_again_74 rfl ?_
      refine mr_geta d_M_again_75 f_M_47 hm (by decide) (by decide) ?_
      refine jm_iload_n d_M_again_78 rfl ?_
      refine mr_ldN _ d_M_again_79 hm (by decide) (by decide) rfl rfl (by simp only [mo_len]; omega) ?_
      refine jm_if_lt 102 d_M_again_80 (by decide) (fun hb80 => ?_) (fun hb80 => ?_)
      · exact K3 h (by rw [ag2, if_pos (Or.inr hb80)]; exact hm) hf _
      · first | refine jm_aload_n d_M_again_83 rfl ?_ | refine jm_aload_nN d_M_again_83 rfl ?_
        refine jm_iconstL (v := 1) d_M_again_84 (by decide) ?_
        refine jm_iload_n d_M_again_85 rfl ?_
        first | refine jm_aload_n d_M_again_86 rfl ?_ | refine jm_aload_nN d_M_again_86 rfl ?_
        refine mr_geta d_M_again_87 f_M_47 hm (by decide) (by decide) ?_
        refine jm_iload_n d_M_again_90 rfl ?_
        refine mr_ldN _ d_M_again_91 hm (by decide) (by decide) rfl rfl (by simp only [mo_len]; omega) ?_
        first | refine jm_aload_n d_M_again_92 rfl ?_ | refine jm_aload_nN d_M_again_92 rfl ?_
        refine mr_geta d_M_again_93 f_M_53 hm (by decide) (by decide) ?_
        refine jm_iload_n d_M_again_96 rfl ?_
        refine mr_ldN _ d_M_again_97 hm (by decide) (by decide) rfl rfl (by simp only [mo_len]; omega) ?_
        refine mr_call (As := [_, _, _, _]) d_M_again_98 l_M_179 iw_M_post ew_M_post nv_M_post rfl (Nat.le_of_ble_eq_true rfl) (by omega : 0 + 1 ≤ _) (k_M_pst hn1 hl1 _ _ _ _) hm hf (fun v9 S9 h hq hm hf => ?_)
        obtain ⟨rfl, y9, rfl⟩ := hq
        refine jm_istore_n d_M_again_101 (Nat.le_of_ble_eq_true rfl) ?_
        exact K3 h (by rw [ag2, if_neg (fun q => q.elim hb71 hb80)]; exact hm) hf _
  first | refine jm_aload_n d_M_again_37 rfl ?_ | refine jm_aload_nN d_M_again_37 rfl ?_
  refine mr_geta d_M_again_38 f_M_56 hm (by decide) (by decide) ?_
  refine jm_iload_n d_M_again_41 rfl ?_
  refine mr_ldN _ d_M_again_42 hm (by decide) (by decide) rfl rfl (by simp only [mo_len]; omega) ?_
  refine jm_if_lt 65 d_M_again_43 (by decide) (fun hb43 => ?_) (fun hb43 => ?_)
  · exact K2 h (by rw [ag1, if_pos (show mu S 0 0 0 19 a < 0 from hb43)]; exact hm) hf _
  · first | refine jm_aload_n d_M_again_46 rfl ?_ | refine jm_aload_nN d_M_again_46 rfl ?_
    refine jm_iconstL (v := 0) d_M_again_47 (by decide) ?_
    refine jm_iload_n d_M_again_48 rfl ?_
    first | refine jm_aload_n d_M_again_49 rfl ?_ | refine jm_aload_nN d_M_again_49 rfl ?_
    refine mr_geta d_M_again_50 f_M_56 hm (by decide) (by decide) ?_
    refine jm_iload_n d_M_again_53 rfl ?_
    refine mr_ldN _ d_M_again_54 hm (by decide) (by decide) rfl rfl (by simp only [mo_len]; omega) ?_
    first | refine jm_aload_n d_M_again_55 rfl ?_ | refine jm_aload_nN d_M_again_55 rfl ?_
    refine mr_geta d_M_again_56 f_M_53 hm (by decide) (by decide) ?_
    refine jm_iload_n d_M_again_59 rfl ?_
    refine mr_ldN _ d_M_again_60 hm (by decide) (by decide) rfl rfl (by simp only [mo_len]; omega) ?_
    refine mr_call (As := [_, _, _, _]) d_M_again_61 l_M_179 iw_M_post ew_M_post nv_M_post rfl (Nat.le_of_ble_eq_true rfl) (by omega : 0 + 1 ≤ _) (k_M_pst (S := mu S 0 0 0) hn h20 _ _ _ _) hm hf (fun v9 S9 h hq hm hf => ?_)
    obtain ⟨rfl, y9, rfl⟩ := hq
    refine jm_istore_n d_M_again_64 (Nat.le_of_ble_eq_true rfl) ?_
    exact K2 h (by rw [ag1, if_neg (show ¬ mu S 0 0 0 19 a < 0 from hb43)]; exact hm) hf _
theorem k_M_again {n nl : Nat} (x : Int32) (hd : 2 ≤ d) (hn : S 1 0 = nI n) (h8 : n ≤ 8) (hn20 : S 34 0 = nI nl) (h20 : nl ≤ 20) (hch : ∀ a, a < n → S 21 a = nI (N S 21 a) ∧ N S 21 a ≤ 8 ∧ (¬ S 23 a ≤ 0 → ∃ w, S 25 a = nI w ∧ w ≤ 256)) : mM Γ m_M_again d m ar [.int x] S (fun v9 S' => (thAgain S x ≠ 0 ∧ S' = mu S 0 0 (thAgain S x) ∧ v9 = some (.int 0)) ∨ (thAgain S x = 0 ∧ ∃ a, a < n ∧ x = nI a ∧ S' = agS (mu S 0 0 0) a (N S 21 a) ∧ v9 = some (.int (S' 34 0)))) := by
  intro h hm
  have hf : mo_fr m ar h h := mo_fr.rf
  have J : ∀ t, t = thAgain S x → ∀ h1, mo h1 m ar S → mo_fr m ar h h1 → jm_W Γ m_M_again d 0 0 (fun oc h' => ∃ v9 S', oc = .inl v9 ∧ ((thAgain S x ≠ 0 ∧ S' = mu S 0 0 (thAgain S x) ∧ v9 = some (.int 0)) ∨ (thAgain S x = 0 ∧ ∃ a, a < n ∧ x = nI a ∧ S' = agS (mu S 0 0 0) a (N S 21 a) ∧ v9 = some (.int (S' 34 0)))) ∧ mo h' m ar S' ∧ mo_fr m ar h h') 25 [some (.ref m), some (.int x), none] [.int t, .ref m] h1 := by
    intro t ht h1 hm1 hf1
    have hm := hm1
    have hf := hf1
    clear hm1 hf1
    refine mr_puti d_M_again_25 f_M_116 hm hf (by decide) rfl (fun h hm hf => ?_)
    first | refine jm_aload_n d_M_again_28 rfl ?_ | refine jm_aload_nN d_M_again_28 rfl ?_
    refine mr_geti d_M_again_29 f_M_116 hm (by decide) rfl ?_
    refine jm_if_le 37 d_M_again_32 (by decide) (fun hb32 => ?_) (fun hb32 => ?_)
    · have hz0 : t = 0 := (by have q : t ≤ 0 := hb32; rw [ht] at q ⊢; exact thF_le.mp q)
      subst hz0
      have q0 := thF_0.mp ht.symm
      obtain ⟨a, ha, rfl⟩ := ag_ix hn h8 (Decidable.not_not.mp q0.1)
      obtain ⟨c1, c2, c3⟩ := hch a ha
      exact lp_M_again (n := n) hd (by omega) hn20 h20 c1 c2 c3 hm hf (fun h S' e hm hf => ⟨_, _, rfl, Or.inr ⟨ht.symm, a, ha, rfl, e, rfl⟩, hm, hf⟩) _
    · refine jm_iconstL (v := 0) d_M_again_35 (by decide) ?_
      exact jm_iret d_M_again_36 rfl ⟨_, _, rfl, Or.inl ⟨fun q => hb32 (by show t ≤ 0; rw [ht, q]; decide), by rw [← ht], rfl⟩, hm, hf⟩
  refine jm_entry (by decide +kernel) (List.forall_mem_cons.mpr ⟨rfl, List.forall_mem_cons.mpr ⟨rfl, fun _ h => nomatch h⟩⟩) (Nat.le_of_ble_eq_true rfl) ?_
  show jm_W _ _ _ _ _ _ 0 [some (.ref m), some (.int x), none] [] _
  first | refine jm_aload_n d_M_again_0 rfl ?_ | refine jm_aload_nN d_M_again_0 rfl ?_
  first | refine jm_aload_n d_M_again_1 rfl ?_ | refine jm_aload_nN d_M_again_1 rfl ?_
  refine jm_iload_n d_M_again_2 rfl ?_
  refine mr_callp (As := [_]) d_M_again_3 l_M_131 iw_M_isAgent ew_M_isAgent nv_M_isAgent rfl (Nat.le_of_ble_eq_true rfl) (by omega : 1 + 1 ≤ _) (k_M_isAgent (by omega) _) hm ?_
  first | refine jm_bz_ne 13 d_M_again_6 (by decide) (fun hb6 => ?_) (fun hb6 => ?_) | refine jm_if_ne 13 d_M_again_6 (by decide) (fun hb6 => ?_) (fun hb6 => ?_)
  · first | refine jm_aload_n d_M_again_13 rfl ?_ | refine jm_aload_nN d_M_again_13 rfl ?_
    refine mr_geti d_M_again_14 f_M_135 hm (by decide) rfl ?_
    first | refine jm_bz_ne 24 d_M_again_17 (by decide) (fun hb17 => ?_) (fun hb17 => ?_) | refine jm_if_ne 24 d_M_again_17 (by decide) (fun hb17 => ?_) (fun hb17 => ?_)
    · refine jm_iconstL (v := 0) d_M_again_24 (by decide) ?_
      exact J _ (thF_3 (fun q => q hb6) hb17) h hm hf
    · refine jm_iconstL (v := 2) d_M_again_20 (by decide) ?_
      refine jm_goto 25 d_M_again_21 (by decide) ?_
      exact J _ (thF_2 (fun q => q hb6) (Decidable.not_not.mp (fun q => hb17 q))) h hm hf
  · refine jm_iconstL (v := 1) d_M_again_9 (by decide) ?_
    refine jm_goto 25 d_M_again_10 (by decide) ?_
    exact J _ (thF_1 hb6) h hm hf
end
