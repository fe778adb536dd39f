/-! THE REFERENCE: agents, own costs, pairs. Written by wip/whole/gen/p23.py -/
section
variable {Γ : jm_G} {d m : Nat} {ar : Nat → Nat} {S : mS} {h : jm_H}
abbrev isAgentS (S : mS) (a : Int32) : Prop := 0 ≤ a ∧ a ≤ S 1 0 - 1
abbrev isValueS (S : mS) (a v : Int32) : Prop := isAgentS S a ∧ 0 ≤ v ∧ v ≤ S 3 a.toNatClampNeg - 1
abbrev isCostS (c : Int32) : Prop := c = -2 ∨ (0 ≤ c ∧ c ≤ 999)
def farS (c : Int32) : Int32 := if c = -2 then 1048576 else c
theorem ag_ix {n : Nat} (hn : S 1 0 = nI n) (h8 : n ≤ 8) {a : Int32} (ha : isAgentS S a) : ∃ k, k < n ∧ a = nI k := by
  obtain ⟨h1, h2⟩ := ha
  rw [hn] at h2
  rcases pk_ix a (n := n) (by omega) with q | q | q
  · simp only [Int32.lt_iff_toInt_lt, Int32.le_iff_toInt_le] at *
    omega
  · exfalso
    cases n with
    | zero => simp only [Int32.le_iff_toInt_le] at *; rw [show (nI 0 - 1).toInt = -1 by decide] at h2; rw [show (0 : Int32).toInt = 0 by decide] at h1; omega
    | succ n =>
      rw [nI_pred] at h2
      simp only [Int32.le_iff_toInt_le] at *
      rw [nI_toInt (by omega)] at h2 q
      omega
  · exact q
theorem ix_ag {n k : Nat} (hn : S 1 0 = nI n) (h8 : n ≤ 8) (hk : k < n) : isAgentS S (nI k) := by
  refine ⟨nI_pos' (by omega), ?_⟩
  rw [hn]
  cases n with
  | zero => omega
  | succ n => rw [nI_pred]; exact nI_le (by omega) (by omega)
theorem ag_vp {n : Nat} (hn : S 1 0 = nI n) (h8 : n ≤ 8) {a : Int32} (ha : isAgentS S a) : vp_in a 8 := by
  obtain ⟨k, hk, rfl⟩ := ag_ix hn h8 ha
  exact vp_in_nI (by omega) (by decide)
theorem k_M_isValue {n : Nat} (hd : 2 ≤ d) (hn : S 1 0 = nI n) (h8 : n ≤ 8) (a v : Int32) : mA Γ m_M_isValue d m ar [.int a, .int v] S (some (.int (if isValueS S a v then 1 else 0))) := by
  intro h hm
  refine jm_entry (by decide +kernel) (List.forall_mem_cons.mpr ⟨rfl, List.forall_mem_cons.mpr ⟨rfl, List.forall_mem_cons.mpr ⟨rfl, fun _ h => nomatch h⟩⟩⟩) (Nat.le_of_ble_eq_true rfl) ?_
  show jm_W _ _ _ _ _ _ 0 [some (.ref m), some (.int a), some (.int v)] [] _
  first | refine jm_aload_n d_M_isValue_0 rfl ?_ | refine jm_aload_nN d_M_isValue_0 rfl ?_
  refine jm_iload_n d_M_isValue_1 rfl ?_
  refine mr_callp (As := [_]) d_M_isValue_2 l_M_131 iw_M_isAgent ew_M_isAgent nv_M_isAgent rfl (Nat.le_of_ble_eq_true rfl) (by omega : 1 + 1 ≤ _) (k_M_isAgent (by omega) _) hm ?_
  first | refine jm_bz_eq 28 d_M_isValue_5 (by decide) (fun hb5 => ?_) (fun hb5 => ?_) | refine jm_if_eq 28 d_M_isValue_5 (by decide) (fun hb5 => ?_) (fun hb5 => ?_)
  · refine jm_iconstL (v := 0) d_M_isValue_28 (by decide) ?_
    exact jm_zret d_M_isValue_29 rfl rfl ⟨rfl, by rw [if_neg (fun q : isValueS S a v => hb5 q.1)]⟩
  · refine jm_iload_n d_M_isValue_8 rfl ?_
    refine jm_iconstL (v := 0) d_M_isValue_9 (by decide) ?_
    first | refine jm_aload_n d_M_isValue_10 rfl ?_ | refine jm_aload_nN d_M_isValue_10 rfl ?_
    refine mr_geta d_M_isValue_11 f_M_7 hm (by decide) (by decide) ?_
    refine jm_iload_n d_M_isValue_14 rfl ?_
    refine mr_ld _ d_M_isValue_15 hm (by decide) (by decide) rfl (ag_vp hn h8 hb5) ?_
    refine jm_iconstL (v := 1) d_M_isValue_16 (by decide) ?_
    refine jm_isub d_M_isValue_17 ?_
    refine jm_callSp (As := [_, _, _]) d_M_isValue_18 l_M_127 sw_M_within nv_M_within rfl (Nat.le_of_ble_eq_true rfl) (by omega : 0 + 1 ≤ _) (k_M_within _ _ _) ?_
    first | refine jm_bz_eq 28 d_M_isValue_21 (by decide) (fun hb21 => ?_) (fun hb21 => ?_) | refine jm_if_eq 28 d_M_isValue_21 (by decide) (fun hb21 => ?_) (fun hb21 => ?_)
    · refine jm_iconstL (v := 0) d_M_isValue_28 (by decide) ?_
      exact jm_zret d_M_isValue_29 rfl rfl ⟨rfl, by rw [if_neg (fun q : isValueS S a v => hb21 q.2)]⟩
    · refine jm_iconstL (v := 1) d_M_isValue_24 (by decide) ?_
      refine jm_goto 29 d_M_isValue_25 (by decide) ?_
      exact jm_zret d_M_isValue_29 rfl rfl ⟨rfl, by rw [if_pos (⟨hb5, hb21⟩ : isValueS S a v)]⟩
abbrev thAgent (S : mS) (x : Int32) : Int32 := thF (¬ (2 ≤ x ∧ x ≤ 4)) (S 2 0 ≠ 0 ∨ S 1 0 = 8)
theorem k_M_agent {n : Nat} (hd : 1 ≤ d) (hn : S 1 0 = nI n) (h8 : n ≤ 8) (x : Int32) : mM Γ m_M_agent d m ar [.int x] S (fun v S' => (thAgent S x ≠ 0 ∧ S' = mu S 0 0 (thAgent S x) ∧ v = some (.int 0)) ∨ (thAgent S x = 0 ∧ n < 8 ∧ S' = mu (mu (mu S 0 0 0) 3 n x) 1 0 (nI (n + 1)) ∧ v = some (.int (nI n)))) := by
  intro h hm
  have hf : mo_fr m ar h h := mo_fr.rf
  have J : ∀ t, t = thAgent S x → ∀ h1, mo h1 m ar S → mo_fr m ar h h1 → jm_W Γ m_M_agent d 0 0 (fun oc h' => ∃ v S', oc = .inl v ∧ ((thAgent S x ≠ 0 ∧ S' = mu S 0 0 (thAgent S x) ∧ v = some (.int 0)) ∨ (thAgent S x = 0 ∧ n < 8 ∧ S' = mu (mu (mu S 0 0 0) 3 n x) 1 0 (nI (n + 1)) ∧ v = some (.int (nI n)))) ∧ mo h' m ar S' ∧ mo_fr m ar h h') 35 [some (.ref m), some (.int x)] [.int t, .ref m] h1 := by
    intro t ht h1 hm1 hf1
    have hm := hm1
    have hf := hf1
    clear hm1 hf1
    have ht8 : t = 0 → n < 8 := by
      intro q
      rw [ht, thF_0] at q
      rcases Nat.lt_or_ge n 8 with z | z
      · exact z
      · exact absurd (Or.inr (by rw [hn, show n = 8 by omega]; rfl)) q.2
    refine mr_puti d_M_agent_35 f_M_116 hm hf (by decide) rfl (fun h hm hf => ?_)
    first | refine jm_aload_n d_M_agent_38 rfl ?_ | refine jm_aload_nN d_M_agent_38 rfl ?_
    refine mr_geti d_M_agent_39 f_M_116 hm (by decide) rfl ?_
    refine jm_if_le 47 d_M_agent_42 (by decide) (fun hb42 => ?_) (fun hb42 => ?_)
    · first | refine jm_aload_n d_M_agent_47 rfl ?_ | refine jm_aload_nN d_M_agent_47 rfl ?_
      refine mr_geta d_M_agent_48 f_M_7 hm (by decide) (by decide) ?_
      first | refine jm_aload_n d_M_agent_51 rfl ?_ | refine jm_aload_nN d_M_agent_51 rfl ?_
      refine mr_geti d_M_agent_52 f_M_124 hm (by decide) rfl ?_
      refine jm_iload_n d_M_agent_55 rfl ?_
      refine mr_st _ d_M_agent_56 hm hf (by decide) (by decide) rfl (by have q : t = 0 := (by have q : t ≤ 0 := hb42; rw [ht] at q ⊢; exact thF_le.mp q); rw [show mu S 0 0 t 1 0 = nI n from hn]; exact vp_in_nI (by show n < 8; exact ht8 q) (by decide)) (fun h hm hf => ?_)
      first | refine jm_aload_n d_M_agent_57 rfl ?_ | refine jm_aload_nN d_M_agent_57 rfl ?_
      refine jm_dup d_M_agent_58 rfl ?_
      refine mr_geti d_M_agent_59 f_M_124 hm (by decide) rfl ?_
      refine jm_iconstL (v := 1) d_M_agent_62 (by decide) ?_
      refine jm_iadd d_M_agent_63 ?_
      refine mr_puti d_M_agent_64 f_M_124 hm hf (by decide) rfl (fun h hm hf => ?_)
      first | refine jm_aload_n d_M_agent_67 rfl ?_ | refine jm_aload_nN d_M_agent_67 rfl ?_
      refine mr_geti d_M_agent_68 f_M_124 hm (by decide) rfl ?_
      refine jm_iconstL (v := 1) d_M_agent_71 (by decide) ?_
      refine jm_isub d_M_agent_72 ?_
      have hz : t = 0 := by have q : t ≤ 0 := hb42; rw [ht] at q ⊢; exact thF_le.mp q
      subst hz
      exact jm_iret d_M_agent_73 rfl ⟨_, _, rfl, Or.inr ⟨ht.symm, ht8 rfl, by simp [mu, hn, nI_clamp (show n < 2 ^ 31 by omega), nI_1], by simp [mu, hn, nI_1, nI_pred]⟩, hm, hf⟩
    · refine jm_iconstL (v := 0) d_M_agent_45 (by decide) ?_
      exact jm_iret d_M_agent_46 rfl ⟨_, _, rfl, Or.inl ⟨fun q => hb42 (by show t ≤ 0; rw [ht, q]; decide), by rw [← ht], rfl⟩, hm, hf⟩
  refine jm_entry (by decide +kernel) (List.forall_mem_cons.mpr ⟨rfl, List.forall_mem_cons.mpr ⟨rfl, fun _ h => nomatch h⟩⟩) (Nat.le_of_ble_eq_true rfl) ?_
  show jm_W _ _ _ _ _ _ 0 [some (.ref m), some (.int x)] [] _
  first | refine jm_aload_n d_M_agent_0 rfl ?_ | refine jm_aload_nN d_M_agent_0 rfl ?_
  refine jm_iload_n d_M_agent_1 rfl ?_
  refine jm_iconstL (v := 2) d_M_agent_2 (by decide) ?_
  refine jm_iconstL (v := 4) d_M_agent_3 (by decide) ?_
  refine jm_callSp (As := [_, _, _]) d_M_agent_4 l_M_127 sw_M_within nv_M_within rfl (Nat.le_of_ble_eq_true rfl) (by omega : 0 + 1 ≤ _) (k_M_within _ _ _) ?_
  first | refine jm_bz_ne 14 d_M_agent_7 (by decide) (fun hb7 => ?_) (fun hb7 => ?_) | refine jm_if_ne 14 d_M_agent_7 (by decide) (fun hb7 => ?_) (fun hb7 => ?_)
  · first | refine jm_aload_n d_M_agent_14 rfl ?_ | refine jm_aload_nN d_M_agent_14 rfl ?_
    refine mr_geti d_M_agent_15 f_M_135 hm (by decide) rfl ?_
    first | refine jm_bz_ne 30 d_M_agent_18 (by decide) (fun hb18 => ?_) (fun hb18 => ?_) | refine jm_if_ne 30 d_M_agent_18 (by decide) (fun hb18 => ?_) (fun hb18 => ?_)
    · refine jm_iconstL (v := 2) d_M_agent_30 (by decide) ?_
      refine jm_goto 35 d_M_agent_31 (by decide) ?_
      exact J _ (thF_2 (fun q => q hb7) (by first | exact Or.inl hb18 | exact Or.inr (Decidable.not_not.mp hb27))) h hm hf
    · first | refine jm_aload_n d_M_agent_21 rfl ?_ | refine jm_aload_nN d_M_agent_21 rfl ?_
      refine mr_geti d_M_agent_22 f_M_124 hm (by decide) rfl ?_
      refine jm_bipushL (v := 8) d_M_agent_25 (by decide) ?_
      refine jm_icmp_ne 34 d_M_agent_27 (by decide) (fun hb27 => ?_) (fun hb27 => ?_)
      · refine jm_iconstL (v := 0) d_M_agent_34 (by decide) ?_
        exact J _ (thF_3 (fun q => q hb7) (fun q => q.elim hb18 hb27)) h hm hf
      · refine jm_iconstL (v := 2) d_M_agent_30 (by decide) ?_
        refine jm_goto 35 d_M_agent_31 (by decide) ?_
        exact J _ (thF_2 (fun q => q hb7) (by first | exact Or.inl hb18 | exact Or.inr (Decidable.not_not.mp hb27))) h hm hf
  · refine jm_iconstL (v := 1) d_M_agent_10 (by decide) ?_
    refine jm_goto 35 d_M_agent_11 (by decide) ?_
    exact J _ (thF_1 hb7) h hm hf
abbrev szOK (S : mS) (n : Nat) : Prop := ∀ k, k < n → ∃ z, 2 ≤ z ∧ z ≤ 4 ∧ S 3 k = nI z
theorem val_ix {n : Nat} (hn : S 1 0 = nI n) (h8 : n ≤ 8) (hz : szOK S n) {a v : Int32} (ha : isValueS S a v) : ∃ k w z, k < n ∧ a = nI k ∧ z ≤ 4 ∧ S 3 k = nI z ∧ w < z ∧ v = nI w := by
  obtain ⟨h1, h2, h3⟩ := ha
  obtain ⟨k, hk, rfl⟩ := ag_ix hn h8 h1
  obtain ⟨z, z1, z2, z3⟩ := hz k hk
  rw [nI_clamp (by omega), z3] at h3
  obtain ⟨w, hw, rfl⟩ := nI_of2 (n := z - 1) (M := nI z - 1) (by
    obtain ⟨z', rfl⟩ : ∃ z', z = z' + 1 := ⟨z - 1, by omega⟩
    rw [nI_pred, nI_toInt (by omega)]
    simp) (by simp only [Int32.lt_iff_toInt_lt, Int32.le_iff_toInt_le] at *; omega) h3
  exact ⟨k, w, z, hk, rfl, z2, z3, by omega, rfl⟩
theorem ix_val {n k w z : Nat} (hn : S 1 0 = nI n) (h8 : n ≤ 8) (hk : k < n) (hz : z ≤ 4) (h3 : S 3 k = nI z) (hw : w < z) : isValueS S (nI k) (nI w) := by
  refine ⟨ix_ag hn h8 hk, nI_pos' (by omega), ?_⟩
  rw [nI_clamp (by omega), h3]
  obtain ⟨z', rfl⟩ : ∃ z', z = z' + 1 := ⟨z - 1, by omega⟩
  rw [nI_pred]
  exact nI_le (by omega) (by omega)
abbrev thOwn (S : mS) (a v c : Int32) : Int32 := thF (¬ isValueS S a v ∨ ¬ isCostS c) (S 2 0 ≠ 0)
theorem k_M_own {n : Nat} (hd : 3 ≤ d) (hn : S 1 0 = nI n) (h8 : n ≤ 8) (hz : szOK S n) (a v c : Int32) : mM Γ m_M_own d m ar [.int a, .int v, .int c] S (fun v9 S' => v9 = none ∧ ((thOwn S a v c ≠ 0 ∧ S' = mu S 0 0 (thOwn S a v c)) ∨ (thOwn S a v c = 0 ∧ ∃ k w, k < n ∧ w < 4 ∧ a = nI k ∧ v = nI w ∧ S' = mu (mu S 0 0 0) 4 (4 * k + w) (farS c)))) := by
  intro h hm
  have hf : mo_fr m ar h h := mo_fr.rf
  have J : ∀ t, t = thOwn S a v c → ∀ h1, mo h1 m ar S → mo_fr m ar h h1 → jm_W Γ m_M_own d 0 0 (fun oc h' => ∃ v9 S', oc = .inl v9 ∧ (v9 = none ∧ ((thOwn S a v c ≠ 0 ∧ S' = mu S 0 0 (thOwn S a v c)) ∨ (thOwn S a v c = 0 ∧ ∃ k w, k < n ∧ w < 4 ∧ a = nI k ∧ v = nI w ∧ S' = mu (mu S 0 0 0) 4 (4 * k + w) (farS c)))) ∧ mo h' m ar S' ∧ mo_fr m ar h h') 33 [some (.ref m), some (.int a), some (.int v), some (.int c)] [.int t, .ref m] h1 := by
    intro t ht h1 hm1 hf1
    have hm := hm1
    have hf := hf1
    clear hm1 hf1
    refine mr_puti d_M_own_33 f_M_116 hm hf (by decide) rfl (fun h hm hf => ?_)
    first | refine jm_aload_n d_M_own_36 rfl ?_ | refine jm_aload_nN d_M_own_36 rfl ?_
    refine mr_geti d_M_own_37 f_M_116 hm (by decide) rfl ?_
    first | refine jm_bz_ne 65 d_M_own_40 (by decide) (fun hb40 => ?_) (fun hb40 => ?_) | refine jm_if_ne 65 d_M_own_40 (by decide) (fun hb40 => ?_) (fun hb40 => ?_)
    · exact jm_vret d_M_own_65 rfl ⟨_, _, rfl, ⟨rfl, Or.inl ⟨fun q => hb40 (by show t = 0; rw [ht, q]), by rw [← ht]⟩⟩, hm, hf⟩
    · have hz0 : t = 0 := Decidable.not_not.mp hb40
      subst hz0
      have q0 := thF_0.mp ht.symm
      obtain ⟨k, w, z, hk, rfl, hz4, hz3, hw, rfl⟩ := val_ix hn h8 hz (Decidable.not_not.mp (fun q => q0.1 (Or.inl q)))
      first | refine jm_aload_n d_M_own_43 rfl ?_ | refine jm_aload_nN d_M_own_43 rfl ?_
      refine mr_geta d_M_own_44 f_M_13 hm (by decide) (by decide) ?_
      refine jm_iconstL (v := 4) d_M_own_47 (by decide) ?_
      refine jm_iload_n d_M_own_48 rfl ?_
      refine jm_imul d_M_own_49 ?_
      refine jm_iload_n d_M_own_50 rfl ?_
      refine jm_iadd d_M_own_51 ?_
      refine jm_iload_n d_M_own_52 rfl ?_
      refine jm_bipushL (v := (-2)) d_M_own_53 (by decide) ?_
      refine jm_icmp_ne 63 d_M_own_55 (by decide) (fun hb55 => ?_) (fun hb55 => ?_)
      · refine jm_iload_n d_M_own_63 rfl ?_
        refine mr_st _ d_M_own_64 hm hf (by decide) (by decide) rfl (by rw [show (4 : Int32) * nI k + nI w = nI (4 * k + w) by rw [show (4 : Int32) = nI 4 from rfl, pk_mul, nI_add]]; exact vp_in_nI (by show 4 * k + w < 32; omega) (by decide)) (fun h hm hf => ?_)
        exact jm_vret d_M_own_65 rfl ⟨_, _, rfl, ⟨rfl, Or.inr ⟨ht.symm, k, w, hk, by omega, rfl, rfl, by rw [show (4 : Int32) * nI k + nI w = nI (4 * k + w) by rw [show (4 : Int32) = nI 4 from rfl, pk_mul, nI_add], nI_clamp (by omega)]; first | rw [farS, if_pos (Decidable.not_not.mp hb55)] | rw [farS, if_neg hb55]⟩⟩, hm, hf⟩
      · refine jm_ldc d_M_own_58 k_M_145 ?_
        refine jm_goto 64 d_M_own_60 (by decide) ?_
        refine mr_st _ d_M_own_64 hm hf (by decide) (by decide) rfl (by rw [show (4 : Int32) * nI k + nI w = nI (4 * k + w) by rw [show (4 : Int32) = nI 4 from rfl, pk_mul, nI_add]]; exact vp_in_nI (by show 4 * k + w < 32; omega) (by decide)) (fun h hm hf => ?_)
        exact jm_vret d_M_own_65 rfl ⟨_, _, rfl, ⟨rfl, Or.inr ⟨ht.symm, k, w, hk, by omega, rfl, rfl, by rw [show (4 : Int32) * nI k + nI w = nI (4 * k + w) by rw [show (4 : Int32) = nI 4 from rfl, pk_mul, nI_add], nI_clamp (by omega)]; first | rw [farS, if_pos (Decidable.not_not.mp hb55)] | rw [farS, if_neg hb55]⟩⟩, hm, hf⟩
  refine jm_entry (by decide +kernel) (List.forall_mem_cons.mpr ⟨rfl, List.forall_mem_cons.mpr ⟨rfl, List.forall_mem_cons.mpr ⟨rfl, List.forall_mem_cons.mpr ⟨rfl, fun _ h => nomatch h⟩⟩⟩⟩) (Nat.le_of_ble_eq_true rfl) ?_
  show jm_W _ _ _ _ _ _ 0 [some (.ref m), some (.int a), some (.int v), some (.int c)] [] _
  first | refine jm_aload_n d_M_own_0 rfl ?_ | refine jm_aload_nN d_M_own_0 rfl ?_
  first | refine jm_aload_n d_M_own_1 rfl ?_ | refine jm_aload_nN d_M_own_1 rfl ?_
  refine jm_iload_n d_M_own_2 rfl ?_
  refine jm_iload_n d_M_own_3 rfl ?_
  refine mr_callp (As := [_, _]) d_M_own_4 l_M_139 iw_M_isValue ew_M_isValue nv_M_isValue rfl (Nat.le_of_ble_eq_true rfl) (by omega : 2 + 1 ≤ _) (k_M_isValue (by omega) hn h8 _ _) hm ?_
  first | refine jm_bz_eq 17 d_M_own_7 (by decide) (fun hb7 => ?_) (fun hb7 => ?_) | refine jm_if_eq 17 d_M_own_7 (by decide) (fun hb7 => ?_) (fun hb7 => ?_)
  · refine jm_iconstL (v := 1) d_M_own_17 (by decide) ?_
    refine jm_goto 33 d_M_own_18 (by decide) ?_
    exact J _ (thF_1 (by first | exact Or.inl hb7 | exact Or.inr hb14)) h hm hf
  · refine jm_iload_n d_M_own_10 rfl ?_
    refine jm_callSp (As := [_]) d_M_own_11 l_M_142 sw_M_isCost nv_M_isCost rfl (Nat.le_of_ble_eq_true rfl) (by omega : 1 + 1 ≤ _) (k_M_isCost (by omega) _) ?_
    first | refine jm_bz_ne 21 d_M_own_14 (by decide) (fun hb14 => ?_) (fun hb14 => ?_) | refine jm_if_ne 21 d_M_own_14 (by decide) (fun hb14 => ?_) (fun hb14 => ?_)
    · first | refine jm_aload_n d_M_own_21 rfl ?_ | refine jm_aload_nN d_M_own_21 rfl ?_
      refine mr_geti d_M_own_22 f_M_135 hm (by decide) rfl ?_
      first | refine jm_bz_eq 32 d_M_own_25 (by decide) (fun hb25 => ?_) (fun hb25 => ?_) | refine jm_if_eq 32 d_M_own_25 (by decide) (fun hb25 => ?_) (fun hb25 => ?_)
      · refine jm_iconstL (v := 0) d_M_own_32 (by decide) ?_
        exact J _ (thF_3 (fun q => q.elim (fun z => z hb7) (fun z => z hb14)) (fun q => q hb25)) h hm hf
      · refine jm_iconstL (v := 2) d_M_own_28 (by decide) ?_
        refine jm_goto 33 d_M_own_29 (by decide) ?_
        exact J _ (thF_2 (fun q => q.elim (fun z => z hb7) (fun z => z hb14)) hb25) h hm hf
    · refine jm_iconstL (v := 1) d_M_own_17 (by decide) ?_
      refine jm_goto 33 d_M_own_18 (by decide) ?_
      exact J _ (thF_1 (by first | exact Or.inl hb7 | exact Or.inr hb14)) h hm hf
end
