/-! THE REFERENCE: agents, own costs, pairs. Written by wip/whole/gen/p23.py -/
section
variable {Γ : jm_G} {d m : Nat} {ar : Nat → Nat} {S : mS} {h : jm_H}
abbrev isAgentS (S : mS) (a : Int32) : Prop := 0 ≤ a ∧ a ≤ S 1 0 - 1
abbrev isValueS (S : mS) (a v : Int32) : Prop := isAgentS S a ∧ 0 ≤ v ∧ v ≤ S 3 a.toNatClampNeg - 1
abbrev isCostS (c : Int32) : Prop := c = -2 ∨ (0 ≤ c ∧ c ≤ 999)
def farS (c : Int32) : Int32 := if c = -2 then 1048576 else c
theorem ag_ix {n : Nat} (hn : S 1 0 = nI n) (h8 : n ≤ 8) {a : Int32} (ha : isAgentS S a) : ∃ k, k < n ∧ a = nI k := by
  obtain ⟨h1, h2⟩ := ha
  rw [hn] at h2
  rcases pk_ix a (n := n) (by omega) with q | q | q
  · simp only [Int32.lt_iff_toInt_lt, Int32.le_iff_toInt_le] at *
    omega
  · exfalso
    cases n with
    | zero => simp only [Int32.le_iff_toInt_le] at *; rw [show (nI 0 - 1).toInt = -1 by decide] at h2; rw [show (0 : Int32).toInt = 0 by decide] at h1; omega
    | succ n =>
      rw [nI_pred] at h2
      simp only [Int32.le_iff_toInt_le] at *
      rw [nI_toInt (by omega)] at h2 q
      omega
  · exact q
theorem ix_ag {n k : Nat} (hn : S 1 0 = nI n) (h8 : n ≤ 8) (hk : k < n) : isAgentS S (nI k) := by
  refine ⟨nI_pos' (by omega), ?_⟩
  rw [hn]
  cases n with
  | zero => omega
  | succ n => rw [nI_pred]; exact nI_le (by omega) (by omega)
theorem ag_vp {n : Nat} (hn : S 1 0 = nI n) (h8 : n ≤ 8) {a : Int32} (ha : isAgentS S a) : vp_in a 8 := by
  obtain ⟨k, hk, rfl⟩ := ag_ix hn h8 ha
  exact vp_in_nI (by omega) (by decide)
theorem k_M_isValue {n : Nat} (hd : 2 ≤ d) (hn : S 1 0 = nI n) (h8 : n ≤ 8) (a v : Int32) : mA Γ m_M_isValue d m ar [.int a, .int v] S (some (.int (if isValueS S a v then 1 else 0))) := by
  intro h hm
  refine jm_entry (by decide +kernel) (List.forall_mem_cons.mpr ⟨rfl, List.forall_mem_cons.mpr ⟨rfl, List.forall_mem_cons.mpr ⟨rfl, fun _ h => nomatch h⟩⟩⟩) (Nat.le_of_ble_eq_true rfl) ?_
  show jm_W _ _ _ _ _ _ 0 [some (.ref m), some (.int a), some (.int v)] [] _
  first | refine jm_aload_n d_M_isValue_0 rfl ?_ | refine jm_aload_nN d_M_isValue_0 rfl ?_
  refine jm_iload_n d_M_isValue_1 rfl ?_
  refine mr_callp (As := [_]) d_M_isValue_2 l_M_131 iw_M_isAgent ew_M_isAgent nv_M_isAgent rfl (Nat.le_of_ble_eq_true rfl) (by omega : 1 + 1 ≤ _) (k_M_isAgent (by omega) _) hm ?_
  first | refine jm_bz_eq 28 d_M_isValue_5 (by decide) (fun hb5 => ?_) (fun hb5 => ?_) | refine jm_if_eq 28 d_M_isValue_5 (by decide) (fun hb5 => ?_) (fun hb5 => ?_)
  · refine jm_iconstL (v := 0) d_M_isValue_28 (by decide) ?_
    exact jm_zret d_M_isValue_29 rfl rfl ⟨rfl, by rw [if_neg (fun q : isValueS S a v => hb5 q.1)]⟩
  · refine jm_iload_n d_M_isValue_8 rfl ?_
    refine jm_iconstL (v := 0) d_M_isValue_9 (by decide) ?_
    first | refine jm_aload_n d_M_isValue_10 rfl ?_ | refine jm_aload_nN d_M_isValue_10 rfl ?_
    refine mr_geta d_M_isValue_11 f_M_7 hm (by decide) (by decide) ?_
    refine jm_iload_n d_M_isValue_14 rfl ?_
    refine mr_ld _ d_M_isValue_15 hm (by decide) (by decide) rfl (ag_vp hn h8 hb5) ?_
    refine jm_iconstL (v := 1) d_M_isValue_16 (by decide) ?_
    refine jm_isub d_M_isValue_17 ?_
    refine jm_callSp (As := [_, _, _]) d_M_isValue_18 l_M_127 sw_M_within nv_M_within rfl (Nat.le_of_ble_eq_true rfl) (by omega : 0 + 1 ≤ _) (k_M_within _ _ _) ?_
    first | refine jm_bz_eq 28 d_M_isValue_21 (by decide) (fun hb21 => ?_) (fun hb21 => ?_) | refine jm_if_eq 28 d_M_isValue_21 (by decide) (fun hb21 => ?_) (fun hb21 => ?_)
    · refine jm_iconstL (v := 0) d_M_isValue_28 (by decide) ?_
      exact jm_zret d_M_isValue_29 rfl rfl ⟨rfl, by rw [if_neg (fun q : isValueS S a v => hb21 q.2)]⟩
    · refine jm_iconstL (v := 1) d_M_isValue_24 (by decide) ?_
      refine jm_goto 29 d_M_isValue_25 (by decide) ?_
      exact jm_zret d_M_isValue_29 rfl rfl ⟨rfl, by rw [if_pos (⟨hb5, hb21⟩ : isValueS S a v)]⟩
abbrev thAgent (S : mS) (x : Int32) : Int32 := thF (¬ (2 ≤ x ∧ x ≤ 4)) (S 2 0 ≠ 0 ∨ S 1 0 = 8)
theorem k_M_agent {n : Nat} (hd : 1 ≤ d) (hn : S 1 0 = nI n) (h8 : n ≤ 8) (x : Int32) : mM Γ m_M_agent d m ar [.int x] S (fun v S' => (thAgent S x ≠ 0 ∧ S' = mu S 0 0 (thAgent S x) ∧ v = some (.int 0)) ∨ (thAgent S x = 0 ∧ n < 8 ∧ S' = mu (mu (mu S 0 0 0) 3 n x) 1 0 (nI (n + 1)) ∧ v = some (.int (nI n)))) := by
  intro h hm
  have hf : mo_fr m ar h h := mo_fr.rf
  have J : ∀ t, t = thAgent S x → ∀ h1, mo h1 m ar S → mo_fr m ar h h1 → jm_W Γ m_M_agent d 0 0 (fun oc h' => ∃ v S', oc = .inl v ∧ ((thAgent S x ≠ 0 ∧ S' = mu S 0 0 (thAgent S x) ∧ v = some (.int 0)) ∨ (thAgent S x = 0 ∧ n < 8 ∧ S' = mu (mu (mu S 0 0 0) 3 n x) 1 0 (nI (n + 1)) ∧ v = some (.int (nI n)))) ∧ mo h' m ar S' ∧ mo_fr m ar h h') 35 [some (.ref m), some (.int x)] [.int t, .ref m] h1 := by
    intro t ht h1 hm1 hf1
    have hm := hm1
    have hf := hf1
    clear hm1 hf1
    have ht8 : t = 0 → n < 8 := by
      intro q
      rw [ht, thF_0] at q
      rcases Nat.lt_or_ge n 8 with z | z
      · exact z
      · exact absurd (Or.inr (by rw [hn, show n = 8 by omega]; rfl)) q.2
    refine mr_puti d_M_agent_35 f_M_116 hm hf (by decide) rfl (fun h hm hf => ?_)
    first | refine jm_aload_n d_M_agent_38 rfl ?_ | refine jm_aload_nN d_M_agent_38 rfl ?_
    refine mr_geti d_M_agent_39 f_M_116 hm (by decide) rfl ?_
    refine jm_if_le 47 d_M_agent_42 (by decide) (fun hb42 => ?_) (fun hb42 => ?_)
    · first | refine jm_aload_n d_M_agent_47 rfl ?_ | refine jm_aload_nN d_M_agent_47 rfl ?_
      refine mr_geta d_M_agent_48 f_M_7 hm (by decide) (by decide) ?_
      first | refine jm_aload_n d_M_agent_51 rfl ?_ | refine jm_aload_nN d_M_agent_51 rfl ?_
      refine mr_geti d_M_agent_52 f_M_124 hm (by decide) rfl ?_
      refine jm_iload_n d_M_agent_55 rfl ?_
      refine mr_st _ d_M_agent_56 hm hf (by decide) (by decide) rfl (by have q : t = 0 := (by have q : t ≤ 0 := hb42; rw [ht] at q ⊢; exact thF_le.mp q); rw [show mu S 0 0 t 1 0 = nI n from hn]; exact vp_in_nI (by show n < 8; exact ht8 q) (by decide)) (fun h hm hf => ?_)
      first | refine jm_aload_n d_M_agent_57 rfl ?_ | refine jm_aload_nN d_M_agent_57 rfl ?_
      refine jm_dup d_M_agent_58 rfl ?_
      refine mr_geti d_M_agent_59 f_M_124 hm (by decide) rfl ?_
      refine jm_iconstL (v := 1) d_M_agent_62 (by decide) ?_
      refine jm_iadd d_M_agent_63 ?_
      refine mr_puti d_M_agent_64 f_M_124 hm hf (by decide) rfl (fun h hm hf => ?_)
      first | refine jm_aload_n d_M_agent_67 rfl ?_ | refine jm_aload_nN d_M_agent_67 rfl ?_
      refine mr_geti d_M_agent_68 f_M_124 hm (by decide) rfl ?_
      refine jm_iconstL (v := 1) d_M_agent_71 (by decide) ?_
      refine jm_isub d_M_agent_72 ?_
      have hz : t = 0 := by have q : t ≤ 0 := hb42; rw [ht] at q ⊢; exact thF_le.mp q
      subst hz
      exact jm_iret d_M_agent_73 rfl ⟨_, _, rfl, Or.inr ⟨ht.symm, ht8 rfl, by simp [mu, hn, nI_clamp (show n < 2 ^ 31 by omega), nI_1], by simp [mu, hn, nI_1, nI_pred]⟩, hm, hf⟩
    · refine jm_iconstL (v := 0) d_M_agent_45 (by decide) ?_
      exact jm_iret d_M_agent_46 rfl ⟨_, _, rfl, Or.inl ⟨fun q => hb42 (by show t ≤ 0; rw [ht, q]; decide), by rw [← ht], rfl⟩, hm, hf⟩
  refine jm_entry (by decide +kernel) (List.forall_mem_cons.mpr ⟨rfl, List.forall_mem_cons.mpr ⟨rfl, fun _ h => nomatch h⟩⟩) (Nat.le_of_ble_eq_true rfl) ?_
  show jm_W _ _ _ _ _ _ 0 [some (.ref m), some (.int x)] [] _
  first | refine jm_aload_n d_M_agent_0 rfl ?_ | refine jm_aload_nN d_M_agent_0 rfl ?_
  refine jm_iload_n d_M_agent_1 rfl ?_
  refine jm_iconstL (v := 2) d_M_agent_2 (by decide) ?_
  refine jm_iconstL (v := 4) d_M_agent_3 (by decide) ?_
  refine jm_callSp (As := [_, _, _]) d_M_agent_4 l_M_127 sw_M_within nv_M_within rfl (Nat.le_of_ble_eq_true rfl) (by omega : 0 + 1 ≤ _) (k_M_within _ _ _) ?_
  first | refine jm_bz_ne 14 d_M_agent_7 (by decide) (fun hb7 => ?_) (fun hb7 => ?_) | refine jm_if_ne 14 d_M_agent_7 (by decide) (fun hb7 => ?_) (fun hb7 => ?_)
  · first | refine jm_aload_n d_M_agent_14 rfl ?_ | refine jm_aload_nN d_M_agent_14 rfl ?_
    refine mr_geti d_M_agent_15 f_M_135 hm (by decide) rfl ?_
    first | refine jm_bz_ne 30 d_M_agent_18 (by decide) (fun hb18 => ?_) (fun hb18 => ?_) | refine jm_if_ne 30 d_M_agent_18 (by decide) (fun hb18 => ?_) (fun hb18 => ?_)
    · refine jm_iconstL (v := 2) d_M_agent_30 (by decide) ?_
      refine jm_goto 35 d_M_agent_31 (by decide) ?_
      exact J _ (thF_2 (fun q => q hb7) (by first | exact Or.inl hb18 | exact Or.inr (Decidable.not_not.mp hb27))) h hm hf
    · first | refine jm_aload_n d_M_agent_21 rfl ?_ | refine jm_aload_nN d_M_agent_21 rfl ?_
      refine mr_geti d_M_agent_22 f_M_124 hm (by decide) rfl ?_
      refine jm_bipushL (v := 8) d_M_agent_25 (by decide) ?_
      refine jm_icmp_ne 34 d_M_agent_27 (by decide) (fun hb27 => ?_) (fun hb27 => ?_)
      · refine jm_iconstL (v := 0) d_M_agent_34 (by decide) ?_
        exact J _ (thF_3 (fun q => q hb7) (fun q => q.elim hb18 hb27)) h hm hf
      · refine jm_iconstL (v := 2) d_M_agent_30 (by decide) ?_
        refine jm_goto 35 d_M_agent_31 (by decide) ?_
        exact J _ (thF_2 (fun q => q hb7) (by first | exact Or.inl hb18 | exact Or.inr (Decidable.not_not.mp hb27))) h hm hf
  · refine jm_iconstL (v := 1) d_M_agent_10 (by decide) ?_
    refine jm_goto 35 d_M_agent_11 (by decide) ?_
    exact J _ (thF_1 hb7) h hm hf
end
