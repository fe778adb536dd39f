/-! THE REFERENCE: letters are copied and sent. Written by wip/whole/gen/p28.py -/
section
variable {Γ : jm_G} {d m : Nat} {ar : Nat → Nat} {S : mS} {h : jm_H}
/-- n numbers of row j' from src on come to row j from dst on -/
def cpB (S : mS) (j dst j' src n : Nat) : mS := fun a x => if a = j ∧ dst ≤ x ∧ x < dst + n then S j' (src + (x - dst)) else S a x
theorem cpB_0 {j dst j' src : Nat} : cpB S j dst j' src 0 = S := by
  funext a x
  simp only [cpB]
  rw [if_neg (by omega)]
theorem cpB_s {j dst j' src n : Nat} (h : j ≠ j' ∨ src + n < dst ∨ dst + n ≤ src + n) (h2 : j ≠ j' ∨ src + n < dst ∨ dst + n ≤ src) : mu (cpB S j dst j' src n) j (dst + n) (cpB S j dst j' src n j' (src + n)) = cpB S j dst j' src (n + 1) := by
  have e1 : cpB S j dst j' src n j' (src + n) = S j' (src + n) := by
    simp only [cpB]
    rw [if_neg]
    rintro ⟨q1, q2, q3⟩
    rcases h2 with z | z | z
    · exact z q1.symm
    · omega
    · omega
  rw [e1]
  funext a x
  simp only [mu, cpB]
  by_cases ha : a = j
  · by_cases hx : x = dst + n
    · subst hx
      rw [if_pos ⟨ha, rfl⟩, if_pos ⟨ha, by omega, by omega⟩]
      congr 1
      omega
    · rw [if_neg (fun q => hx q.2)]
      by_cases hr : dst ≤ x ∧ x < dst + n
      · rw [if_pos ⟨ha, hr⟩, if_pos ⟨ha, by omega, by omega⟩]
      · rw [if_neg (fun q => hr q.2), if_neg (fun q => hr ⟨q.2.1, by omega⟩)]
  · rw [if_neg (fun q => ha q.1), if_neg (fun q => ha q.1), if_neg (fun q => ha q.1)]
/-- letter k is copied to place l: all but the entries -/
def cp6 (S : mS) (k l : Nat) : mS := mu (mu (mu (mu (mu (mu S 35 l (S 35 k)) 36 l (S 36 k)) 37 l (S 37 k)) 38 l (S 38 k)) 39 l (S 39 k)) 40 l (S 40 k)
def cpL (S : mS) (k l : Nat) : mS := cpB (cp6 S k l) 41 (256 * l) 41 (256 * k) 256
theorem e256 (k i : Nat) : (256 : Int32) * nI k + nI i = nI (256 * k + i) := by rw [show (256 : Int32) = nI 256 from rfl, pk_mul, nI_add]
theorem lp_M_copy {rc rs k l : Nat} {h0 : jm_H} {Q : jm_O → jm_H → Prop} {T : mS} (hk : k < 21) (hl : l < 21) (hkl : k ≠ l) (hQ : ∀ h, mo h m ar (cpB T 41 (256 * l) 41 (256 * k) 256) → mo_fr m ar h0 h → Q (.inl none) h) : ∀ j i, i + j = 256 → ∀ h, mo h m ar (cpB T 41 (256 * l) 41 (256 * k) i) → mo_fr m ar h0 h → jm_W Γ m_M_copyLetter d rc rs Q 74 [some (.ref m), some (.int (nI k)), some (.int (nI l)), some (.int (nI i))] [] h := by
  intro j
  induction j with
  | zero =>
    intro i hi h hm hf
    have hi' : i = 256 := by omega
    subst hi'
    refine jm_iload_n d_M_copyLetter_74 rfl ?_
    refine jm_sipushL (v := 256) d_M_copyLetter_75 (by decide) ?_
    refine jm_icmp_ge 111 d_M_copyLetter_78 (by decide) (fun hb78 => ?_) (fun hb78 => ?_)
    · exact jm_vret d_M_copyLetter_111 rfl (hQ h hm hf)
    · exact absurd (by decide) hb78
  | succ j ih =>
    intro i hi h hm hf
    refine jm_iload_n d_M_copyLetter_74 rfl ?_
    refine jm_sipushL (v := 256) d_M_copyLetter_75 (by decide) ?_
    refine jm_icmp_ge 111 d_M_copyLetter_78 (by decide) (fun hb78 => ?_) (fun hb78 => ?_)
    · exact absurd hb78 (nI_ge (b := 256) (by omega) (by decide))
    · first | refine jm_aload_n d_M_copyLetter_81 rfl ?_ | refine jm_aload_nN d_M_copyLetter_81 rfl ?_
      refine mr_geta d_M_copyLetter_82 f_M_113 hm (by decide) (by decide) ?_
      refine jm_sipushL (v := 256) d_M_copyLetter_85 (by decide) ?_
      refine jm_iload_n d_M_copyLetter_88 rfl ?_
      refine jm_imul d_M_copyLetter_89 ?_
      refine jm_iload_n d_M_copyLetter_90 rfl ?_
      refine jm_iadd d_M_copyLetter_91 ?_
      rw [e256]
      first | refine jm_aload_n d_M_copyLetter_92 rfl ?_ | refine jm_aload_nN d_M_copyLetter_92 rfl ?_
      refine mr_geta d_M_copyLetter_93 f_M_113 hm (by decide) (by decide) ?_
      refine jm_sipushL (v := 256) d_M_copyLetter_96 (by decide) ?_
      refine jm_iload_n d_M_copyLetter_99 rfl ?_
      refine jm_imul d_M_copyLetter_100 ?_
      refine jm_iload_n d_M_copyLetter_101 rfl ?_
      refine jm_iadd d_M_copyLetter_102 ?_
      rw [e256]
      refine mr_ld _ d_M_copyLetter_103 hm (by decide) (by decide) rfl (vp_in_nI (by show 256 * k + i < 5376; omega) (by decide)) ?_
      refine mr_st _ d_M_copyLetter_104 hm hf (by decide) (by decide) rfl (vp_in_nI (by show 256 * l + i < 5376; omega) (by decide)) (fun h hm hf => ?_)
      refine jm_iincL (v := nI (i + 1)) d_M_copyLetter_105 rfl (by rw [nI_succ]; rfl) ?_
      refine jm_goto 74 d_M_copyLetter_108 (by decide) ?_
      refine ih (i + 1) (by omega) h ?_ hf
      rw [nI_clamp (show 256 * l + i < 2 ^ 31 by omega), nI_clamp (show 256 * k + i < 2 ^ 31 by omega), cpB_s (by omega) (by omega)] at hm
      exact hm
theorem k_M_copyLetter {k l : Nat} (hk : k < 21) (hl : l < 21) (hkl : k ≠ l) : mM Γ m_M_copyLetter d m ar [.int (nI k), .int (nI l)] S (fun v9 S' => v9 = none ∧ S' = cpL S k l) := by
  intro h hm
  have hf : mo_fr m ar h h := mo_fr.rf
  refine jm_entry (by decide +kernel) (List.forall_mem_cons.mpr ⟨rfl, List.forall_mem_cons.mpr ⟨rfl, List.forall_mem_cons.mpr ⟨rfl, fun _ h => nomatch h⟩⟩⟩) (Nat.le_of_ble_eq_true rfl) ?_
  show jm_W _ _ _ _ _ _ 0 [some (.ref m), some (.int (nI k)), some (.int (nI l)), none] [] _
  first | refine jm_aload_n d_M_copyLetter_0 rfl ?_ | refine jm_aload_nN d_M_copyLetter_0 rfl ?_
  refine mr_geta d_M_copyLetter_1 f_M_95 hm (by decide) (by decide) ?_
  refine jm_iload_n d_M_copyLetter_4 rfl ?_
  first | refine jm_aload_n d_M_copyLetter_5 rfl ?_ | refine jm_aload_nN d_M_copyLetter_5 rfl ?_
  refine mr_geta d_M_copyLetter_6 f_M_95 hm (by decide) (by decide) ?_
  refine jm_iload_n d_M_copyLetter_9 rfl ?_
  refine mr_ld _ d_M_copyLetter_10 hm (by decide) (by decide) rfl (vp_in_nI (by show k < 21; omega) (by decide)) ?_
  refine mr_st _ d_M_copyLetter_11 hm hf (by decide) (by decide) rfl (vp_in_nI (by show l < 21; omega) (by decide)) (fun h hm hf => ?_)
  first | refine jm_aload_n d_M_copyLetter_12 rfl ?_ | refine jm_aload_nN d_M_copyLetter_12 rfl ?_
  refine mr_geta d_M_copyLetter_13 f_M_98 hm (by decide) (by decide) ?_
  refine jm_iload_n d_M_copyLetter_16 rfl ?_
  first | refine jm_aload_n d_M_copyLetter_17 rfl ?_ | refine jm_aload_nN d_M_copyLetter_17 rfl ?_
  refine mr_geta d_M_copyLetter_18 f_M_98 hm (by decide) (by decide) ?_
  refine jm_iload_n d_M_copyLetter_21 rfl ?_
  refine mr_ld _ d_M_copyLetter_22 hm (by decide) (by decide) rfl (vp_in_nI (by show k < 21; omega) (by decide)) ?_
  refine mr_st _ d_M_copyLetter_23 hm hf (by decide) (by decide) rfl (vp_in_nI (by show l < 21; omega) (by decide)) (fun h hm hf => ?_)
  first | refine jm_aload_n d_M_copyLetter_24 rfl ?_ | refine jm_aload_nN d_M_copyLetter_24 rfl ?_
  refine mr_geta d_M_copyLetter_25 f_M_101 hm (by decide) (by decide) ?_
  refine jm_iload_n d_M_copyLetter_28 rfl ?_
  first | refine jm_aload_n d_M_copyLetter_29 rfl ?_ | refine jm_aload_nN d_M_copyLetter_29 rfl ?_
  refine mr_geta d_M_copyLetter_30 f_M_101 hm (by decide) (by decide) ?_
  refine jm_iload_n d_M_copyLetter_33 rfl ?_
  refine mr_ld _ d_M_copyLetter_34 hm (by decide) (by decide) rfl (vp_in_nI (by show k < 21; omega) (by decide)) ?_
  refine mr_st _ d_M_copyLetter_35 hm hf (by decide) (by decide) rfl (vp_in_nI (by show l < 21; omega) (by decide)) (fun h hm hf => ?_)
  first | refine jm_aload_n d_M_copyLetter_36 rfl ?_ | refine jm_aload_nN d_M_copyLetter_36 rfl ?_
  refine mr_geta d_M_copyLetter_37 f_M_104 hm (by decide) (by decide) ?_
  refine jm_iload_n d_M_copyLetter_40 rfl ?_
  first | refine jm_aload_n d_M_copyLetter_41 rfl ?_ | refine jm_aload_nN d_M_copyLetter_41 rfl ?_
  refine mr_geta d_M_copyLetter_42 f_M_104 hm (by decide) (by decide) ?_
  refine jm_iload_n d_M_copyLetter_45 rfl ?_
  refine mr_ld _ d_M_copyLetter_46 hm (by decide) (by decide) rfl (vp_in_nI (by show k < 21; omega) (by decide)) ?_
  refine mr_st _ d_M_copyLetter_47 hm hf (by decide) (by decide) rfl (vp_in_nI (by show l < 21; omega) (by decide)) (fun h hm hf => ?_)
  first | refine jm_aload_n d_M_copyLetter_48 rfl ?_ | refine jm_aload_nN d_M_copyLetter_48 rfl ?_
  refine mr_geta d_M_copyLetter_49 f_M_107 hm (by decide) (by decide) ?_
  refine jm_iload_n d_M_copyLetter_52 rfl ?_
  first | refine jm_aload_n d_M_copyLetter_53 rfl ?_ | refine jm_aload_nN d_M_copyLetter_53 rfl ?_
  refine mr_geta d_M_copyLetter_54 f_M_107 hm (by decide) (by decide) ?_
  refine jm_iload_n d_M_copyLetter_57 rfl ?_
  refine mr_ld _ d_M_copyLetter_58 hm (by decide) (by decide) rfl (vp_in_nI (by show k < 21; omega) (by decide)) ?_
  refine mr_st _ d_M_copyLetter_59 hm hf (by decide) (by decide) rfl (vp_in_nI (by show l < 21; omega) (by decide)) (fun h hm hf => ?_)
  first | refine jm_aload_n d_M_copyLetter_60 rfl ?_ | refine jm_aload_nN d_M_copyLetter_60 rfl ?_
  refine mr_geta d_M_copyLetter_61 f_M_110 hm (by decide) (by decide) ?_
  refine jm_iload_n d_M_copyLetter_64 rfl ?_
  first | refine jm_aload_n d_M_copyLetter_65 rfl ?_ | refine jm_aload_nN d_M_copyLetter_65 rfl ?_
  refine mr_geta d_M_copyLetter_66 f_M_110 hm (by decide) (by decide) ?_
  refine jm_iload_n d_M_copyLetter_69 rfl ?_
  refine mr_ld _ d_M_copyLetter_70 hm (by decide) (by decide) rfl (vp_in_nI (by show k < 21; omega) (by decide)) ?_
  refine mr_st _ d_M_copyLetter_71 hm hf (by decide) (by decide) rfl (vp_in_nI (by show l < 21; omega) (by decide)) (fun h hm hf => ?_)
  refine jm_iconstL (v := 0) d_M_copyLetter_72 (by decide) ?_
  refine jm_istore_n d_M_copyLetter_73 (Nat.le_of_ble_eq_true rfl) ?_
  refine lp_M_copy (T := cp6 S k l) hk hl hkl (fun h hm hf => ⟨_, _, rfl, ⟨rfl, rfl⟩, hm, hf⟩) 256 0 (by omega) h ?_ hf
  rw [cpB_0]
  rw [nI_clamp (show k < 2 ^ 31 by omega), nI_clamp (show l < 2 ^ 31 by omega)] at hm
  exact hm
/-- agent k's table goes to its parent as a letter -/
def ptS (S : mS) (k : Nat) : mS := if S 34 0 = 20 then S else
  cpB (mu (mu (postS S 2 (nI k) (S 16 k) (S 23 k)) 40 (S 34 0).toNatClampNeg (S 24 k)) 39 (S 34 0).toNatClampNeg (S 25 k)) 41 (256 * (S 34 0).toNatClampNeg) 26 (256 * k) (S 25 k).toNatClampNeg
theorem lp_M_postTable {rc rs k l w : Nat} {h0 : jm_H} {Q : jm_O → jm_H → Prop} {T : mS} (hk : k < 8) (hl : l < 20) (hw : w ≤ 256) (hT : T 39 l = nI w) (hQ : ∀ h, mo h m ar (cpB T 41 (256 * l) 26 (256 * k) w) → mo_fr m ar h0 h → Q (.inl none) h) : ∀ j i, i + j = w → ∀ h, mo h m ar (cpB T 41 (256 * l) 26 (256 * k) i) → mo_fr m ar h0 h → jm_W Γ m_M_postTable d rc rs Q 49 [some (.ref m), some (.int (nI k)), some (.int (nI l)), some (.int (nI i))] [] h := by
  intro j
  induction j with
  | zero =>
    intro i hi h hm hf
    have hi' : i = w := by omega
    subst hi'
    have hT' : cpB T 41 (256 * l) 26 (256 * k) i 39 l = nI i := hT
    have hc := nI_clamp (show l < 2 ^ 31 by omega)
    refine jm_iload_n d_M_postTable_49 rfl ?_
    first | refine jm_aload_n d_M_postTable_50 rfl ?_ | refine jm_aload_nN d_M_postTable_50 rfl ?_
    refine mr_geta d_M_postTable_51 f_M_107 hm (by decide) (by decide) ?_
    refine jm_iload_n d_M_postTable_54 rfl ?_
    refine mr_ld _ d_M_postTable_55 hm (by decide) (by decide) rfl (vp_in_nI (by show l < 21; omega) (by decide)) ?_
    rw [hc, hT']
    refine jm_icmp_ge 89 d_M_postTable_56 (by decide) (fun hb56 => ?_) (fun hb56 => ?_)
    · exact jm_vret d_M_postTable_89 rfl (hQ h hm hf)
    · exact absurd (nI_le (by omega) (by omega)) hb56
  | succ j ih =>
    intro i hi h hm hf
    have hT' : cpB T 41 (256 * l) 26 (256 * k) i 39 l = nI w := hT
    have hc := nI_clamp (show l < 2 ^ 31 by omega)
    refine jm_iload_n d_M_postTable_49 rfl ?_
    first | refine jm_aload_n d_M_postTable_50 rfl ?_ | refine jm_aload_nN d_M_postTable_50 rfl ?_
    refine mr_geta d_M_postTable_51 f_M_107 hm (by decide) (by decide) ?_
    refine jm_iload_n d_M_postTable_54 rfl ?_
    refine mr_ld _ d_M_postTable_55 hm (by decide) (by decide) rfl (vp_in_nI (by show l < 21; omega) (by decide)) ?_
    rw [hc, hT']
    refine jm_icmp_ge 89 d_M_postTable_56 (by decide) (fun hb56 => ?_) (fun hb56 => ?_)
    · exact absurd hb56 (nI_ge (by omega) (by omega))
    · first | refine jm_aload_n d_M_postTable_59 rfl ?_ | refine jm_aload_nN d_M_postTable_59 rfl ?_
      refine mr_geta d_M_postTable_60 f_M_113 hm (by decide) (by decide) ?_
      refine jm_sipushL (v := 256) d_M_postTable_63 (by decide) ?_
      refine jm_iload_n d_M_postTable_66 rfl ?_
      refine jm_imul d_M_postTable_67 ?_
      refine jm_iload_n d_M_postTable_68 rfl ?_
      refine jm_iadd d_M_postTable_69 ?_
      rw [e256]
      first | refine jm_aload_n d_M_postTable_70 rfl ?_ | refine jm_aload_nN d_M_postTable_70 rfl ?_
      refine mr_geta d_M_postTable_71 f_M_77 hm (by decide) (by decide) ?_
      refine jm_sipushL (v := 256) d_M_postTable_74 (by decide) ?_
      refine jm_iload_n d_M_postTable_77 rfl ?_
      refine jm_imul d_M_postTable_78 ?_
      refine jm_iload_n d_M_postTable_79 rfl ?_
      refine jm_iadd d_M_postTable_80 ?_
      rw [e256]
      refine mr_ld _ d_M_postTable_81 hm (by decide) (by decide) rfl (vp_in_nI (by show 256 * k + i < 4096; omega) (by decide)) ?_
      refine mr_st _ d_M_postTable_82 hm hf (by decide) (by decide) rfl (vp_in_nI (by show 256 * l + i < 5376; omega) (by decide)) (fun h hm hf => ?_)
      refine jm_iincL (v := nI (i + 1)) d_M_postTable_83 rfl (by rw [nI_succ]; rfl) ?_
      refine jm_goto 49 d_M_postTable_86 (by decide) ?_
      refine ih (i + 1) (by omega) h ?_ hf
      rw [nI_clamp (show 256 * l + i < 2 ^ 31 by omega), nI_clamp (show 256 * k + i < 2 ^ 31 by omega), cpB_s (by omega) (by omega)] at hm
      exact hm
theorem k_M_postTable {k nl w : Nat} (hd : 1 ≤ d) (hk : k < 8) (hn : S 34 0 = nI nl) (h20 : nl ≤ 20) (hw : S 25 k = nI w) (hw2 : w ≤ 256) : mM Γ m_M_postTable d m ar [.int (nI k)] S (fun v9 S' => v9 = none ∧ S' = ptS S k) := by
  intro h hm
  have hf : mo_fr m ar h h := mo_fr.rf
  have hc := nI_clamp (show k < 2 ^ 31 by omega)
  have hcl := nI_clamp (show nl < 2 ^ 31 by omega)
  have hcw := nI_clamp (show w < 2 ^ 31 by omega)
  refine jm_entry (by decide +kernel) (List.forall_mem_cons.mpr ⟨rfl, List.forall_mem_cons.mpr ⟨rfl, fun _ h => nomatch h⟩⟩) (Nat.le_of_ble_eq_true rfl) ?_
  show jm_W _ _ _ _ _ _ 0 [some (.ref m), some (.int (nI k)), none, none] [] _
  first | refine jm_aload_n d_M_postTable_0 rfl ?_ | refine jm_aload_nN d_M_postTable_0 rfl ?_
  refine jm_iconstL (v := 2) d_M_postTable_1 (by decide) ?_
  refine jm_iload_n d_M_postTable_2 rfl ?_
  first | refine jm_aload_n d_M_postTable_3 rfl ?_ | refine jm_aload_nN d_M_postTable_3 rfl ?_
  refine mr_geta d_M_postTable_4 f_M_47 hm (by decide) (by decide) ?_
  refine jm_iload_n d_M_postTable_7 rfl ?_
  refine mr_ld _ d_M_postTable_8 hm (by decide) (by decide) rfl (vp_in_nI (by show k < 8; omega) (by decide)) ?_
  first | refine jm_aload_n d_M_postTable_9 rfl ?_ | refine jm_aload_nN d_M_postTable_9 rfl ?_
  refine mr_geta d_M_postTable_10 f_M_68 hm (by decide) (by decide) ?_
  refine jm_iload_n d_M_postTable_13 rfl ?_
  refine mr_ld _ d_M_postTable_14 hm (by decide) (by decide) rfl (vp_in_nI (by show k < 16; omega) (by decide)) ?_
  refine mr_call (As := [_, _, _, _]) d_M_postTable_15 l_M_179 iw_M_post ew_M_post nv_M_post rfl (Nat.le_of_ble_eq_true rfl) (by omega : 0 + 1 ≤ _) (k_M_post hn h20 _ _ _ _) hm hf (fun v9 S9 h2 hq hm2 hf2 => ?_)
  rw [hc] at hq
  rcases hq with ⟨q1, e1, rfl⟩ | ⟨q1, e1, rfl⟩
  · refine jm_istore_n d_M_postTable_18 (Nat.le_of_ble_eq_true rfl) ?_
    refine jm_iload_n d_M_postTable_19 rfl ?_
    refine jm_if_lt 89 d_M_postTable_20 (by decide) (fun _ => ?_) (fun z => absurd (by decide) z)
    exact jm_vret d_M_postTable_89 rfl ⟨_, _, rfl, ⟨rfl, by rw [ptS, if_pos q1]; exact e1⟩, hm2, hf2⟩
  subst e1
  have hm := hm2
  have hf := hf2
  have hnl : nl < 20 := by
    rcases Nat.lt_or_ge nl 20 with z | z
    · exact z
    · exact absurd (by rw [hn, show nl = 20 by omega]; rfl) q1
  rw [hn]
  refine jm_istore_n d_M_postTable_18 (Nat.le_of_ble_eq_true rfl) ?_
  refine jm_iload_n d_M_postTable_19 rfl ?_
  refine jm_if_lt 89 d_M_postTable_20 (by decide) (fun hb20 => ?_) (fun hb20 => ?_)
  · exact absurd hb20 (nI_pos (by omega))
  · first | refine jm_aload_n d_M_postTable_23 rfl ?_ | refine jm_aload_nN d_M_postTable_23 rfl ?_
    refine mr_geta d_M_postTable_24 f_M_110 hm (by decide) (by decide) ?_
    refine jm_iload_n d_M_postTable_27 rfl ?_
    first | refine jm_aload_n d_M_postTable_28 rfl ?_ | refine jm_aload_nN d_M_postTable_28 rfl ?_
    refine mr_geta d_M_postTable_29 f_M_71 hm (by decide) (by decide) ?_
    refine jm_iload_n d_M_postTable_32 rfl ?_
    refine mr_ld _ d_M_postTable_33 hm (by decide) (by decide) rfl (vp_in_nI (by show k < 16; omega) (by decide)) ?_
    refine mr_st _ d_M_postTable_34 hm hf (by decide) (by decide) rfl (vp_in_nI (by show nl < 21; omega) (by decide)) (fun h hm hf => ?_)
    first | refine jm_aload_n d_M_postTable_35 rfl ?_ | refine jm_aload_nN d_M_postTable_35 rfl ?_
    refine mr_geta d_M_postTable_36 f_M_107 hm (by decide) (by decide) ?_
    refine jm_iload_n d_M_postTable_39 rfl ?_
    first | refine jm_aload_n d_M_postTable_40 rfl ?_ | refine jm_aload_nN d_M_postTable_40 rfl ?_
    refine mr_geta d_M_postTable_41 f_M_74 hm (by decide) (by decide) ?_
    refine jm_iload_n d_M_postTable_44 rfl ?_
    refine mr_ld _ d_M_postTable_45 hm (by decide) (by decide) rfl (vp_in_nI (by show k < 16; omega) (by decide)) ?_
    refine mr_st _ d_M_postTable_46 hm hf (by decide) (by decide) rfl (vp_in_nI (by show nl < 21; omega) (by decide)) (fun h hm hf => ?_)
    refine jm_iconstL (v := 0) d_M_postTable_47 (by decide) ?_
    refine jm_istore_n d_M_postTable_48 (Nat.le_of_ble_eq_true rfl) ?_
    refine lp_M_postTable (k := k) (l := nl) (w := w) (T := mu (mu (postS S 2 (nI k) (S 16 k) (S 23 k)) 40 nl (S 24 k)) 39 nl (S 25 k)) hk (by omega) hw2 (by simp [mu, hw]) (fun h hm hf => ⟨_, _, rfl, ⟨rfl, by rw [ptS, if_neg q1, hn, hcl, hw, hcw]⟩, hm, hf⟩) w 0 (by omega) h ?_ hf
    rw [cpB_0]
    rw [hc, hcl] at hm
    exact hm
end
