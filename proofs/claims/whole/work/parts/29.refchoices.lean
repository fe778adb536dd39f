/-! THE REFERENCE: choices are sent. Written by wip/whole/gen/p29.py -/
section
variable {Γ : jm_G} {d m : Nat} {ar : Nat → Nat} {S : mS} {h : jm_H}
theorem e8 (k i : Nat) : (8 : Int32) * nI k + nI i = nI (8 * k + i) := by rw [show (8 : Int32) = nI 8 from rfl, pk_mul, nI_add]
/-- how many of the values that agent k knows, below b, are told -/
def cntF (S : mS) (k : Nat) : Nat → Int32
  | 0 => 0
  | b + 1 => if 0 ≤ S 31 (8 * k + b) then cntF S k b + 1 else cntF S k b
/-- a choice goes to the child c of agent k -/
def pc1 (S : mS) (k c : Nat) : mS := if S 34 0 = 20 then S else
  mu (cpB (postS S 3 (nI k) (S 20 (8 * k + c)) (S 28 k)) 41 (256 * (S 34 0).toNatClampNeg) 31 (8 * k) 8) 39 (S 34 0).toNatClampNeg (cntF S k 8)
def pcF (S : mS) (k : Nat) : Nat → mS
  | 0 => S
  | c + 1 => pc1 (pcF S k c) k c
theorem post_lo {w a b x : Int32} {j i : Nat} (hj : j < 34) : postS S w a b x j i = S j i := by
  simp only [postS, mu]
  rw [if_neg (by omega), if_neg (by omega), if_neg (by omega), if_neg (by omega), if_neg (by omega), if_neg (by omega), if_neg (by omega)]
theorem pc1_lo {k c j i : Nat} (hj : j < 34) : pc1 S k c j i = S j i := by
  unfold pc1
  split
  · rfl
  · show (if j = 39 ∧ i = _ then _ else cpB _ 41 _ 31 _ 8 j i) = _
    rw [if_neg (by omega)]
    show (if j = 41 ∧ _ ∧ _ then _ else postS S _ _ _ _ j i) = _
    rw [if_neg (by omega), post_lo hj]
theorem pcF_lo {k j i : Nat} (hj : j < 34) : ∀ c, pcF S k c j i = S j i
  | 0 => rfl
  | c + 1 => (pc1_lo hj).trans (pcF_lo hj c)
theorem pc1_nl {k c nl : Nat} (hn : S 34 0 = nI nl) (h20 : nl ≤ 20) : ∃ nl', nl' ≤ 20 ∧ pc1 S k c 34 0 = nI nl' := by
  unfold pc1
  split
  · exact ⟨nl, h20, hn⟩
  · rename_i q
    refine ⟨nl + 1, ?_, ?_⟩
    · rcases Nat.lt_or_ge nl 20 with z | z
      · exact z
      · exact absurd (by rw [hn, show nl = 20 by omega]; rfl) q
    · show S 34 0 + 1 = _
      rw [hn, nI_1]
theorem pcF_nl {k nl : Nat} (hn : S 34 0 = nI nl) (h20 : nl ≤ 20) : ∀ c, ∃ nl', nl' ≤ 20 ∧ pcF S k c 34 0 = nI nl'
  | 0 => ⟨nl, h20, hn⟩
  | c + 1 => by
    obtain ⟨q, q1, q2⟩ := pcF_nl (k := k) hn h20 c
    exact pc1_nl q2 q1
theorem mu_mu {j i : Nat} {x y : Int32} : mu (mu S j i x) j i y = mu S j i y := by
  funext a b
  simp only [mu]
  by_cases q : a = j ∧ b = i <;> simp [q]
theorem mu_cm {j i j' i' : Nat} {x y : Int32} (h : j ≠ j') : mu (mu S j i x) j' i' y = mu (mu S j' i' y) j i x := by
  funext a b
  simp only [mu]
  by_cases q : a = j ∧ b = i
  · rw [if_neg (by omega), if_pos q]
    rw [if_pos q]
  · by_cases q2 : a = j' ∧ b = i'
    · simp [q2]
      intro e _
      exact absurd e.symm h
    · simp [q, q2]
theorem rd39 {l i : Nat} {x y : Int32} : mu (mu S 39 l x) 41 i y 39 l = x := by simp [mu]
theorem mu_id {j i : Nat} {x : Int32} (h : S j i = x) : mu S j i x = S := by
  funext a b
  simp only [mu]
  by_cases q : a = j ∧ b = i
  · rw [if_pos q, q.1, q.2, h]
  · rw [if_neg q]
theorem lp_M_pc1 {rc rs k l c : Nat} {h0 : jm_H} {Q : jm_O → jm_H → Prop} {T : mS} (hk : k < 8) (hl : l < 20)
    (hQ : ∀ h, mo h m ar (mu (cpB T 41 (256 * l) 31 (8 * k) 8) 39 l (cntF T k 8)) → mo_fr m ar h0 h → ∀ x4, jm_W Γ m_M_postChoices d rc rs Q 119 [some (.ref m), some (.int (nI k)), some (.int (nI c)), some (.int (nI l)), x4] [] h) :
    ∀ j b, b + j = 8 → ∀ h, mo h m ar (mu (cpB T 41 (256 * l) 31 (8 * k) b) 39 l (cntF T k b)) → mo_fr m ar h0 h → jm_W Γ m_M_postChoices d rc rs Q 39 [some (.ref m), some (.int (nI k)), some (.int (nI c)), some (.int (nI l)), some (.int (nI b))] [] h := by
  intro j
  induction j with
  | zero =>
    intro b hb h hm hf
    have hb' : b = 8 := by omega
    subst hb'
    refine jm_iload d_M_postChoices_39 rfl ?_
    refine jm_bipushL (v := 8) d_M_postChoices_41 (by decide) ?_
    refine jm_icmp_ge 119 d_M_postChoices_43 (by decide) (fun hb43 => ?_) (fun hb43 => ?_)
    · exact hQ h hm hf _
    · exact absurd (by decide) hb43
  | succ j ih =>
    intro b hb h hm hf
    have hcl := nI_clamp (show l < 2 ^ 31 by omega)
    have hc8 := nI_clamp (show 8 * k + b < 2 ^ 31 by omega)
    have hce := nI_clamp (show 256 * l + b < 2 ^ 31 by omega)
    refine jm_iload d_M_postChoices_39 rfl ?_
    refine jm_bipushL (v := 8) d_M_postChoices_41 (by decide) ?_
    refine jm_icmp_ge 119 d_M_postChoices_43 (by decide) (fun hb43 => ?_) (fun hb43 => ?_)
    · exact absurd hb43 (nI_ge (b := 8) (by omega) (by decide))
    · refine jm_iload_n d_M_postChoices_46 rfl ?_
      refine jm_if_lt 119 d_M_postChoices_47 (by decide) (fun hb47 => ?_) (fun hb47 => ?_)
      · exact absurd hb47 (nI_pos (by omega))
      · first | refine jm_aload_n d_M_postChoices_50 rfl ?_ | refine jm_aload_nN d_M_postChoices_50 rfl ?_
        refine mr_geta d_M_postChoices_51 f_M_113 hm (by decide) (by decide) ?_
        refine jm_sipushL (v := 256) d_M_postChoices_54 (by decide) ?_
        refine jm_iload_n d_M_postChoices_57 rfl ?_
        refine jm_imul d_M_postChoices_58 ?_
        refine jm_iload d_M_postChoices_59 rfl ?_
        refine jm_iadd d_M_postChoices_61 ?_
        rw [e256]
        first | refine jm_aload_n d_M_postChoices_62 rfl ?_ | refine jm_aload_nN d_M_postChoices_62 rfl ?_
        refine mr_geta d_M_postChoices_63 f_M_89 hm (by decide) (by decide) ?_
        refine jm_bipushL (v := 8) d_M_postChoices_66 (by decide) ?_
        refine jm_iload_n d_M_postChoices_68 rfl ?_
        refine jm_imul d_M_postChoices_69 ?_
        refine jm_iload d_M_postChoices_70 rfl ?_
        refine jm_iadd d_M_postChoices_72 ?_
        rw [e8]
        refine mr_ld _ d_M_postChoices_73 hm (by decide) (by decide) rfl (vp_in_nI (by show 8 * k + b < 64; omega) (by decide)) ?_
        refine mr_st _ d_M_postChoices_74 hm hf (by decide) (by decide) rfl (vp_in_nI (by show 256 * l + b < 5376; omega) (by decide)) (fun h hm hf => ?_)
        first | refine jm_aload_n d_M_postChoices_75 rfl ?_ | refine jm_aload_nN d_M_postChoices_75 rfl ?_
        refine mr_geta d_M_postChoices_76 f_M_107 hm (by decide) (by decide) ?_
        refine jm_iload_n d_M_postChoices_79 rfl ?_
        first | refine jm_aload_n d_M_postChoices_80 rfl ?_ | refine jm_aload_nN d_M_postChoices_80 rfl ?_
        refine mr_geta d_M_postChoices_81 f_M_89 hm (by decide) (by decide) ?_
        refine jm_bipushL (v := 8) d_M_postChoices_84 (by decide) ?_
        refine jm_iload_n d_M_postChoices_86 rfl ?_
        refine jm_imul d_M_postChoices_87 ?_
        refine jm_iload d_M_postChoices_88 rfl ?_
        refine jm_iadd d_M_postChoices_90 ?_
        rw [e8]
        refine mr_ld _ d_M_postChoices_91 hm (by decide) (by decide) rfl (vp_in_nI (by show 8 * k + b < 64; omega) (by decide)) ?_
        refine jm_if_ge 104 d_M_postChoices_92 (by decide) (fun hb92 => ?_) (fun hb92 => ?_)
        · first | refine jm_aload_n d_M_postChoices_104 rfl ?_ | refine jm_aload_nN d_M_postChoices_104 rfl ?_
          refine mr_geta d_M_postChoices_105 f_M_107 hm (by decide) (by decide) ?_
          refine jm_iload_n d_M_postChoices_108 rfl ?_
          refine mr_ld _ d_M_postChoices_109 hm (by decide) (by decide) rfl (vp_in_nI (by show l < 21; omega) (by decide)) ?_
          rw [hcl, rd39]
          refine jm_iconstL (v := 1) d_M_postChoices_110 (by decide) ?_
          refine jm_iadd d_M_postChoices_111 ?_
          refine mr_st _ d_M_postChoices_112 hm hf (by decide) (by decide) rfl (vp_in_nI (by show l < 21; omega) (by decide)) (fun h hm hf => ?_)
          refine jm_iincL (v := nI (b + 1)) d_M_postChoices_113 rfl (by rw [nI_succ]; rfl) ?_
          refine jm_goto 39 d_M_postChoices_116 (by decide) ?_
          refine ih (b + 1) (by omega) h ?_ hf
          rw [hce, hc8, hcl] at hm
          rw [hc8] at hb92
          have e31 : mu (cpB T 41 (256 * l) 31 (8 * k) b) 39 l (cntF T k b) 31 (8 * k + b) = T 31 (8 * k + b) := rfl
          have e31' : cpB T 41 (256 * l) 31 (8 * k) b 31 (8 * k + b) = T 31 (8 * k + b) := rfl
          rw [mu_cm (by decide : (39 : Nat) ≠ 41), e31, ← e31', cpB_s (by omega) (by omega), mu_mu] at hm
          first | rw [show cntF T k (b + 1) = cntF T k b + 1 from if_pos hb92] | rw [show cntF T k (b + 1) = cntF T k b from if_neg hb92]
          exact hm
        · first | refine jm_aload_n d_M_postChoices_95 rfl ?_ | refine jm_aload_nN d_M_postChoices_95 rfl ?_
          refine mr_geta d_M_postChoices_96 f_M_107 hm (by decide) (by decide) ?_
          refine jm_iload_n d_M_postChoices_99 rfl ?_
          refine mr_ld _ d_M_postChoices_100 hm (by decide) (by decide) rfl (vp_in_nI (by show l < 21; omega) (by decide)) ?_
          rw [hcl, rd39]
          refine jm_goto 112 d_M_postChoices_101 (by decide) ?_
          refine mr_st _ d_M_postChoices_112 hm hf (by decide) (by decide) rfl (vp_in_nI (by show l < 21; omega) (by decide)) (fun h hm hf => ?_)
          refine jm_iincL (v := nI (b + 1)) d_M_postChoices_113 rfl (by rw [nI_succ]; rfl) ?_
          refine jm_goto 39 d_M_postChoices_116 (by decide) ?_
          refine ih (b + 1) (by omega) h ?_ hf
          rw [hce, hc8, hcl] at hm
          rw [hc8] at hb92
          have e31 : mu (cpB T 41 (256 * l) 31 (8 * k) b) 39 l (cntF T k b) 31 (8 * k + b) = T 31 (8 * k + b) := rfl
          have e31' : cpB T 41 (256 * l) 31 (8 * k) b 31 (8 * k + b) = T 31 (8 * k + b) := rfl
          rw [mu_cm (by decide : (39 : Nat) ≠ 41), e31, ← e31', cpB_s (by omega) (by omega), mu_mu] at hm
          first | rw [show cntF T k (b + 1) = cntF T k b + 1 from if_pos hb92] | rw [show cntF T k (b + 1) = cntF T k b from if_neg hb92]
          exact hm
theorem cntF_post {w a b x : Int32} {k : Nat} : ∀ q, cntF (postS S w a b x) k q = cntF S k q
  | 0 => rfl
  | q + 1 => by
    show (if 0 ≤ postS S w a b x 31 (8 * k + q) then cntF (postS S w a b x) k q + 1 else cntF (postS S w a b x) k q) = _
    rw [cntF_post q, post_lo (by decide)]
    rfl
theorem lp_M_pcs {rc rs k nl cc : Nat} {h0 : jm_H} {Q : jm_O → jm_H → Prop} (hd : 1 ≤ d) (hk : k < 8) (hn : S 34 0 = nI nl) (h20 : nl ≤ 20) (hcc : S 21 k = nI cc) (hc7 : cc ≤ 8)
    (hQ : ∀ h, mo h m ar (pcF S k cc) → mo_fr m ar h0 h → Q (.inl none) h) :
    ∀ j c, c + j = cc → ∀ h, mo h m ar (pcF S k c) → mo_fr m ar h0 h → ∀ x3 x4, jm_W Γ m_M_postChoices d rc rs Q 2 [some (.ref m), some (.int (nI k)), some (.int (nI c)), x3, x4] [] h := by
  have hck := nI_clamp (show k < 2 ^ 31 by omega)
  intro j
  induction j with
  | zero =>
    intro c hc h hm hf x3 x4
    have hc' : c = cc := by omega
    subst hc'
    have e21 : pcF S k c 21 k = nI c := (pcF_lo (by decide) c).trans hcc
    refine jm_iload_n d_M_postChoices_2 rfl ?_
    first | refine jm_aload_n d_M_postChoices_3 rfl ?_ | refine jm_aload_nN d_M_postChoices_3 rfl ?_
    refine mr_geta d_M_postChoices_4 f_M_62 hm (by decide) (by decide) ?_
    refine jm_iload_n d_M_postChoices_7 rfl ?_
    refine mr_ld _ d_M_postChoices_8 hm (by decide) (by decide) rfl (vp_in_nI (by show k < 8; omega) (by decide)) ?_
    rw [hck, e21]
    refine jm_icmp_ge 125 d_M_postChoices_9 (by decide) (fun hb9 => ?_) (fun hb9 => ?_)
    · exact jm_vret d_M_postChoices_125 rfl (hQ h hm hf)
    · exact absurd (nI_le (by omega) (by omega)) hb9
  | succ j ih =>
    intro c hc h hm hf x3 x4
    have e21 : pcF S k c 21 k = nI cc := (pcF_lo (by decide) c).trans hcc
    obtain ⟨nl', n1, n2⟩ := pcF_nl (k := k) hn h20 c
    have hc8 := nI_clamp (show 8 * k + c < 2 ^ 31 by omega)
    have hcl := nI_clamp (show nl' < 2 ^ 31 by omega)
    generalize hT : pcF S k c = T at *
    refine jm_iload_n d_M_postChoices_2 rfl ?_
    first | refine jm_aload_n d_M_postChoices_3 rfl ?_ | refine jm_aload_nN d_M_postChoices_3 rfl ?_
    refine mr_geta d_M_postChoices_4 f_M_62 hm (by decide) (by decide) ?_
    refine jm_iload_n d_M_postChoices_7 rfl ?_
    refine mr_ld _ d_M_postChoices_8 hm (by decide) (by decide) rfl (vp_in_nI (by show k < 8; omega) (by decide)) ?_
    rw [hck, e21]
    refine jm_icmp_ge 125 d_M_postChoices_9 (by decide) (fun hb9 => ?_) (fun hb9 => ?_)
    · exact absurd hb9 (nI_ge (by omega) (by omega))
    · first | refine jm_aload_n d_M_postChoices_12 rfl ?_ | refine jm_aload_nN d_M_postChoices_12 rfl ?_
      refine jm_iconstL (v := 3) d_M_postChoices_13 (by decide) ?_
      refine jm_iload_n d_M_postChoices_14 rfl ?_
      first | refine jm_aload_n d_M_postChoices_15 rfl ?_ | refine jm_aload_nN d_M_postChoices_15 rfl ?_
      refine mr_geta d_M_postChoices_16 f_M_59 hm (by decide) (by decide) ?_
      refine jm_bipushL (v := 8) d_M_postChoices_19 (by decide) ?_
      refine jm_iload_n d_M_postChoices_21 rfl ?_
      refine jm_imul d_M_postChoices_22 ?_
      refine jm_iload_n d_M_postChoices_23 rfl ?_
      refine jm_iadd d_M_postChoices_24 ?_
      rw [e8]
      refine mr_ld _ d_M_postChoices_25 hm (by decide) (by decide) rfl (vp_in_nI (by show 8 * k + c < 64; omega) (by decide)) ?_
      rw [hc8]
      first | refine jm_aload_n d_M_postChoices_26 rfl ?_ | refine jm_aload_nN d_M_postChoices_26 rfl ?_
      refine mr_geta d_M_postChoices_27 f_M_80 hm (by decide) (by decide) ?_
      refine jm_iload_n d_M_postChoices_30 rfl ?_
      refine mr_ld _ d_M_postChoices_31 hm (by decide) (by decide) rfl (vp_in_nI (by show k < 8; omega) (by decide)) ?_
      rw [hck]
      refine mr_call (As := [_, _, _, _]) d_M_postChoices_32 l_M_179 iw_M_post ew_M_post nv_M_post rfl (Nat.le_of_ble_eq_true rfl) (by omega : 0 + 1 ≤ _) (k_M_post n2 n1 _ _ _ _) hm hf (fun v9 S9 h2 hq hm2 hf2 => ?_)
      rcases hq with ⟨q1, e1, rfl⟩ | ⟨q1, e1, rfl⟩
      · refine jm_istore_n d_M_postChoices_35 (Nat.le_of_ble_eq_true rfl) ?_
        refine jm_iconstL (v := 0) d_M_postChoices_36 (by decide) ?_
        refine jm_istore d_M_postChoices_37 (Nat.le_of_ble_eq_true rfl) ?_
        refine jm_iload d_M_postChoices_39 rfl ?_
        refine jm_bipushL (v := 8) d_M_postChoices_41 (by decide) ?_
        refine jm_icmp_ge 119 d_M_postChoices_43 (by decide) (fun z => absurd z (by decide)) (fun _ => ?_)
        refine jm_iload_n d_M_postChoices_46 rfl ?_
        refine jm_if_lt 119 d_M_postChoices_47 (by decide) (fun _ => ?_) (fun z => absurd (by decide) z)
        refine jm_iincL (v := nI (c + 1)) d_M_postChoices_119 rfl (by rw [nI_succ]; rfl) ?_
        refine jm_goto 2 d_M_postChoices_122 (by decide) ?_
        refine ih (c + 1) (by omega) h2 ?_ hf2 _ _
        show mo h2 m ar (pc1 (pcF S k c) k c)
        rw [hT, pc1, if_pos q1, ← e1]
        exact hm2
      subst e1
      have hnl : nl' < 20 := by
        rcases Nat.lt_or_ge nl' 20 with z | z
        · exact z
        · exact absurd (by rw [n2, show nl' = 20 by omega]; rfl) q1
      rw [n2]
      refine jm_istore_n d_M_postChoices_35 (Nat.le_of_ble_eq_true rfl) ?_
      refine jm_iconstL (v := nI 0) d_M_postChoices_36 (by decide) ?_
      refine jm_istore d_M_postChoices_37 (Nat.le_of_ble_eq_true rfl) ?_
      refine lp_M_pc1 (T := postS T 3 (nI k) (T 20 (8 * k + c)) (T 28 k)) (c := c) hk hnl (fun h hm hf x4 => ?_) 8 0 (by omega) h2 ?_ hf2
      · refine jm_iincL (v := nI (c + 1)) d_M_postChoices_119 rfl (by rw [nI_succ]; rfl) ?_
        refine jm_goto 2 d_M_postChoices_122 (by decide) ?_
        refine ih (c + 1) (by omega) h ?_ hf _ _
        show mo h m ar (pc1 (pcF S k c) k c)
        rw [hT, pc1, if_neg q1, n2, hcl]
        rw [cntF_post] at hm
        exact hm
      · rw [cpB_0, show cntF (postS T 3 (nI k) (T 20 (8 * k + c)) (T 28 k)) k 0 = 0 from rfl, mu_id]
        · exact hm2
        · simp [postS, mu, n2, hcl]
theorem k_M_postChoices {k nl cc : Nat} (hd : 1 ≤ d) (hk : k < 8) (hn : S 34 0 = nI nl) (h20 : nl ≤ 20) (hcc : S 21 k = nI cc) (hc7 : cc ≤ 8) : mM Γ m_M_postChoices d m ar [.int (nI k)] S (fun v9 S' => v9 = none ∧ S' = pcF S k cc) := by
  intro h hm
  have hf : mo_fr m ar h h := mo_fr.rf
  refine jm_entry (by decide +kernel) (List.forall_mem_cons.mpr ⟨rfl, List.forall_mem_cons.mpr ⟨rfl, fun _ h => nomatch h⟩⟩) (Nat.le_of_ble_eq_true rfl) ?_
  show jm_W _ _ _ _ _ _ 0 [some (.ref m), some (.int (nI k)), none, none, none] [] _
  refine jm_iconstL (v := nI 0) d_M_postChoices_0 (by decide) ?_
  refine jm_istore_n d_M_postChoices_1 (Nat.le_of_ble_eq_true rfl) ?_
  exact lp_M_pcs hd hk hn h20 hcc hc7 (fun h hm hf => ⟨_, _, rfl, ⟨rfl, rfl⟩, hm, hf⟩) cc 0 (by omega) h hm hf _ _
end
