/-! THE REFERENCE: what is asked of it. Written by wip/whole/gen/p25.py -/
section
variable {Γ : jm_G} {d m : Nat} {ar : Nat → Nat} {S : mS} {h : jm_H}
theorem k_M_tables  : mM Γ m_M_tables d m ar [] S (fun v9 S' => S' = mu S 0 0 0 ∧ v9 = some (.int (S 27 0))) := by
  intro h hm
  have hf : mo_fr m ar h h := mo_fr.rf
  refine jm_entry (by decide +kernel) (List.forall_mem_cons.mpr ⟨rfl, fun _ h => nomatch h⟩) (Nat.le_of_ble_eq_true rfl) ?_
  show jm_W _ _ _ _ _ _ 0 [some (.ref m)] [] _
  first | refine jm_aload_n d_M_tables_0 rfl ?_ | refine jm_aload_nN d_M_tables_0 rfl ?_
  refine jm_iconstL (v := 0) d_M_tables_1 (by decide) ?_
  refine mr_puti d_M_tables_2 f_M_116 hm hf (by decide) rfl (fun h hm hf => ?_)
  first | refine jm_aload_n d_M_tables_5 rfl ?_ | refine jm_aload_nN d_M_tables_5 rfl ?_
  refine mr_geti d_M_tables_6 f_M_205 hm (by decide) rfl ?_
  exact jm_iret d_M_tables_9 rfl ⟨_, _, rfl, ⟨rfl, rfl⟩, hm, hf⟩
theorem k_M_parent {n : Nat} (hd : 2 ≤ d) (hn : S 1 0 = nI n) (h8 : n ≤ 8) (a : Int32) : mM Γ m_M_parent d m ar [.int a] S (fun v9 S' => S' = mu S 0 0 0 ∧ v9 = some (.int (if isAgentS S a then S 16 a.toNatClampNeg else -1))) := by
  intro h hm
  have hf : mo_fr m ar h h := mo_fr.rf
  refine jm_entry (by decide +kernel) (List.forall_mem_cons.mpr ⟨rfl, List.forall_mem_cons.mpr ⟨rfl, fun _ h => nomatch h⟩⟩) (Nat.le_of_ble_eq_true rfl) ?_
  show jm_W _ _ _ _ _ _ 0 [some (.ref m), some (.int a)] [] _
  first | refine jm_aload_n d_M_parent_0 rfl ?_ | refine jm_aload_nN d_M_parent_0 rfl ?_
  refine jm_iconstL (v := 0) d_M_parent_1 (by decide) ?_
  refine mr_puti d_M_parent_2 f_M_116 hm hf (by decide) rfl (fun h hm hf => ?_)
  first | refine jm_aload_n d_M_parent_5 rfl ?_ | refine jm_aload_nN d_M_parent_5 rfl ?_
  refine jm_iload_n d_M_parent_6 rfl ?_
  refine mr_callp (As := [_]) d_M_parent_7 l_M_131 iw_M_isAgent ew_M_isAgent nv_M_isAgent rfl (Nat.le_of_ble_eq_true rfl) (by omega : 1 + 1 ≤ _) (k_M_isAgent (by omega) _) hm ?_
  first | refine jm_bz_eq 22 d_M_parent_10 (by decide) (fun hb10 => ?_) (fun hb10 => ?_) | refine jm_if_eq 22 d_M_parent_10 (by decide) (fun hb10 => ?_) (fun hb10 => ?_)
  · refine jm_iconstL (v := (-1)) d_M_parent_22 (by decide) ?_
    exact jm_iret d_M_parent_23 rfl ⟨_, _, rfl, ⟨rfl, by first | rw [if_pos (show isAgentS S a from hb10)]; rfl | rw [if_neg (show ¬ isAgentS S a from hb10)]⟩, hm, hf⟩
  · first | refine jm_aload_n d_M_parent_13 rfl ?_ | refine jm_aload_nN d_M_parent_13 rfl ?_
    refine mr_geta d_M_parent_14 f_M_47 hm (by decide) (by decide) ?_
    refine jm_iload_n d_M_parent_17 rfl ?_
    refine mr_ld _ d_M_parent_18 hm (by decide) (by decide) rfl (ag_vp (S := mu S 0 0 0) hn h8 hb10) ?_
    refine jm_goto 23 d_M_parent_19 (by decide) ?_
    exact jm_iret d_M_parent_23 rfl ⟨_, _, rfl, ⟨rfl, by first | rw [if_pos (show isAgentS S a from hb10)]; rfl | rw [if_neg (show ¬ isAgentS S a from hb10)]⟩, hm, hf⟩
theorem k_M_separator {n : Nat} (hd : 2 ≤ d) (hn : S 1 0 = nI n) (h8 : n ≤ 8) (a : Int32) : mM Γ m_M_separator d m ar [.int a] S (fun v9 S' => S' = mu S 0 0 0 ∧ v9 = some (.int (if isAgentS S a ∧ S 14 a.toNatClampNeg ≠ 0 then S 22 a.toNatClampNeg else -1))) := by
  intro h hm
  have hf : mo_fr m ar h h := mo_fr.rf
  refine jm_entry (by decide +kernel) (List.forall_mem_cons.mpr ⟨rfl, List.forall_mem_cons.mpr ⟨rfl, fun _ h => nomatch h⟩⟩) (Nat.le_of_ble_eq_true rfl) ?_
  show jm_W _ _ _ _ _ _ 0 [some (.ref m), some (.int a)] [] _
  first | refine jm_aload_n d_M_separator_0 rfl ?_ | refine jm_aload_nN d_M_separator_0 rfl ?_
  refine jm_iconstL (v := 0) d_M_separator_1 (by decide) ?_
  refine mr_puti d_M_separator_2 f_M_116 hm hf (by decide) rfl (fun h hm hf => ?_)
  first | refine jm_aload_n d_M_separator_5 rfl ?_ | refine jm_aload_nN d_M_separator_5 rfl ?_
  refine jm_iload_n d_M_separator_6 rfl ?_
  refine mr_callp (As := [_]) d_M_separator_7 l_M_131 iw_M_isAgent ew_M_isAgent nv_M_isAgent rfl (Nat.le_of_ble_eq_true rfl) (by omega : 1 + 1 ≤ _) (k_M_isAgent (by omega) _) hm ?_
  first | refine jm_bz_eq 31 d_M_separator_10 (by decide) (fun hb10 => ?_) (fun hb10 => ?_) | refine jm_if_eq 31 d_M_separator_10 (by decide) (fun hb10 => ?_) (fun hb10 => ?_)
  · refine jm_iconstL (v := (-1)) d_M_separator_31 (by decide) ?_
    exact jm_iret d_M_separator_32 rfl ⟨_, _, rfl, ⟨rfl, by first | rw [if_neg (fun q : isAgentS S a ∧ _ => hb10 q.1)] | rw [if_neg (fun q : isAgentS S a ∧ S 14 a.toNatClampNeg ≠ 0 => q.2 hb19)] | rw [if_pos (⟨hb10, hb19⟩ : isAgentS S a ∧ S 14 a.toNatClampNeg ≠ 0)]; rfl⟩, hm, hf⟩
  · first | refine jm_aload_n d_M_separator_13 rfl ?_ | refine jm_aload_nN d_M_separator_13 rfl ?_
    refine mr_geta d_M_separator_14 f_M_41 hm (by decide) (by decide) ?_
    refine jm_iload_n d_M_separator_17 rfl ?_
    refine mr_ldz _ d_M_separator_18 hm (by decide) (by decide) rfl (ag_vp (S := mu S 0 0 0) hn h8 hb10) ?_
    first | refine jm_bz_eq 31 d_M_separator_19 (by decide) (fun hb19 => ?_) (fun hb19 => ?_) | refine jm_if_eq 31 d_M_separator_19 (by decide) (fun hb19 => ?_) (fun hb19 => ?_)
    · refine jm_iconstL (v := (-1)) d_M_separator_31 (by decide) ?_
      exact jm_iret d_M_separator_32 rfl ⟨_, _, rfl, ⟨rfl, by first | rw [if_neg (fun q : isAgentS S a ∧ _ => hb10 q.1)] | rw [if_neg (fun q : isAgentS S a ∧ S 14 a.toNatClampNeg ≠ 0 => q.2 hb19)] | rw [if_pos (⟨hb10, hb19⟩ : isAgentS S a ∧ S 14 a.toNatClampNeg ≠ 0)]; rfl⟩, hm, hf⟩
    · first | refine jm_aload_n d_M_separator_22 rfl ?_ | refine jm_aload_nN d_M_separator_22 rfl ?_
      refine mr_geta d_M_separator_23 f_M_65 hm (by decide) (by decide) ?_
      refine jm_iload_n d_M_separator_26 rfl ?_
      refine mr_ld _ d_M_separator_27 hm (by decide) (by decide) rfl (ag_vp (S := mu S 0 0 0) hn h8 hb10) ?_
      refine jm_goto 32 d_M_separator_28 (by decide) ?_
      exact jm_iret d_M_separator_32 rfl ⟨_, _, rfl, ⟨rfl, by first | rw [if_neg (fun q : isAgentS S a ∧ _ => hb10 q.1)] | rw [if_neg (fun q : isAgentS S a ∧ S 14 a.toNatClampNeg ≠ 0 => q.2 hb19)] | rw [if_pos (⟨hb10, hb19⟩ : isAgentS S a ∧ S 14 a.toNatClampNeg ≠ 0)]; rfl⟩, hm, hf⟩
theorem k_M_entries {n : Nat} (hd : 2 ≤ d) (hn : S 1 0 = nI n) (h8 : n ≤ 8) (a : Int32) : mM Γ m_M_entries d m ar [.int a] S (fun v9 S' => S' = mu S 0 0 0 ∧ v9 = some (.int (if isAgentS S a ∧ ¬ S 23 a.toNatClampNeg ≤ 0 then S 25 a.toNatClampNeg else -1))) := by
  intro h hm
  have hf : mo_fr m ar h h := mo_fr.rf
  refine jm_entry (by decide +kernel) (List.forall_mem_cons.mpr ⟨rfl, List.forall_mem_cons.mpr ⟨rfl, fun _ h => nomatch h⟩⟩) (Nat.le_of_ble_eq_true rfl) ?_
  show jm_W _ _ _ _ _ _ 0 [some (.ref m), some (.int a)] [] _
  first | refine jm_aload_n d_M_entries_0 rfl ?_ | refine jm_aload_nN d_M_entries_0 rfl ?_
  refine jm_iconstL (v := 0) d_M_entries_1 (by decide) ?_
  refine mr_puti d_M_entries_2 f_M_116 hm hf (by decide) rfl (fun h hm hf => ?_)
  first | refine jm_aload_n d_M_entries_5 rfl ?_ | refine jm_aload_nN d_M_entries_5 rfl ?_
  refine jm_iload_n d_M_entries_6 rfl ?_
  refine mr_callp (As := [_]) d_M_entries_7 l_M_131 iw_M_isAgent ew_M_isAgent nv_M_isAgent rfl (Nat.le_of_ble_eq_true rfl) (by omega : 1 + 1 ≤ _) (k_M_isAgent (by omega) _) hm ?_
  first | refine jm_bz_eq 31 d_M_entries_10 (by decide) (fun hb10 => ?_) (fun hb10 => ?_) | refine jm_if_eq 31 d_M_entries_10 (by decide) (fun hb10 => ?_) (fun hb10 => ?_)
  · refine jm_iconstL (v := (-1)) d_M_entries_31 (by decide) ?_
    exact jm_iret d_M_entries_32 rfl ⟨_, _, rfl, ⟨rfl, by first | rw [if_neg (fun q : isAgentS S a ∧ _ => hb10 q.1)] | rw [if_neg (fun q : isAgentS S a ∧ ¬ S 23 a.toNatClampNeg ≤ 0 => q.2 hb19)] | rw [if_pos (⟨hb10, hb19⟩ : isAgentS S a ∧ ¬ S 23 a.toNatClampNeg ≤ 0)]; rfl⟩, hm, hf⟩
  · first | refine jm_aload_n d_M_entries_13 rfl ?_ | refine jm_aload_nN d_M_entries_13 rfl ?_
    refine mr_geta d_M_entries_14 f_M_68 hm (by decide) (by decide) ?_
    refine jm_iload_n d_M_entries_17 rfl ?_
    refine mr_ld _ d_M_entries_18 hm (by decide) (by decide) rfl (by have q := ag_vp (S := mu S 0 0 0) hn h8 hb10; exact fun z => q (z.imp_right (fun w => by have : (16 : Nat) ≤ _ := w; omega))) ?_
    refine jm_if_le 31 d_M_entries_19 (by decide) (fun hb19 => ?_) (fun hb19 => ?_)
    · refine jm_iconstL (v := (-1)) d_M_entries_31 (by decide) ?_
      exact jm_iret d_M_entries_32 rfl ⟨_, _, rfl, ⟨rfl, by first | rw [if_neg (fun q : isAgentS S a ∧ _ => hb10 q.1)] | rw [if_neg (fun q : isAgentS S a ∧ ¬ S 23 a.toNatClampNeg ≤ 0 => q.2 hb19)] | rw [if_pos (⟨hb10, hb19⟩ : isAgentS S a ∧ ¬ S 23 a.toNatClampNeg ≤ 0)]; rfl⟩, hm, hf⟩
    · first | refine jm_aload_n d_M_entries_22 rfl ?_ | refine jm_aload_nN d_M_entries_22 rfl ?_
      refine mr_geta d_M_entries_23 f_M_74 hm (by decide) (by decide) ?_
      refine jm_iload_n d_M_entries_26 rfl ?_
      refine mr_ld _ d_M_entries_27 hm (by decide) (by decide) rfl (by have q := ag_vp (S := mu S 0 0 0) hn h8 hb10; exact fun z => q (z.imp_right (fun w => by have : (16 : Nat) ≤ _ := w; omega))) ?_
      refine jm_goto 32 d_M_entries_28 (by decide) ?_
      exact jm_iret d_M_entries_32 rfl ⟨_, _, rfl, ⟨rfl, by first | rw [if_neg (fun q : isAgentS S a ∧ _ => hb10 q.1)] | rw [if_neg (fun q : isAgentS S a ∧ ¬ S 23 a.toNatClampNeg ≤ 0 => q.2 hb19)] | rw [if_pos (⟨hb10, hb19⟩ : isAgentS S a ∧ ¬ S 23 a.toNatClampNeg ≤ 0)]; rfl⟩, hm, hf⟩
/-- the part's run is its own: settled; and lost -/
abbrev setS (S : mS) (k : Nat) : Prop := S 2 0 ≠ 0 ∧ S 28 k = S 12 (S 10 k).toNatClampNeg
abbrev lostS (S : mS) (k : Nat) : Prop := S 29 (S 11 (S 10 k).toNatClampNeg).toNatClampNeg = S 12 (S 10 k).toNatClampNeg
/-- parts and their roots are told by numbers -/
abbrev ptOK (S : mS) (n : Nat) : Prop := S 2 0 ≠ 0 → ∀ k, k < n → ∃ q r, q < 8 ∧ r < 8 ∧ S 10 k = nI q ∧ S 11 q = nI r
theorem b8 {q : Nat} (h : q < 8) : vp_in (nI q) 8 := vp_in_nI h (by decide)
theorem k_M_isSettled {n k : Nat} (hk : k < n) (h8 : n ≤ 8) (hp : ptOK S n) : mA Γ m_M_isSettled d m ar [.int (nI k)] S (some (.int (if setS S k then 1 else 0))) := by
  intro h hm
  refine jm_entry (by decide +kernel) (List.forall_mem_cons.mpr ⟨rfl, List.forall_mem_cons.mpr ⟨rfl, fun _ h => nomatch h⟩⟩) (Nat.le_of_ble_eq_true rfl) ?_
  show jm_W _ _ _ _ _ _ 0 [some (.ref m), some (.int (nI k))] [] _
  first | refine jm_aload_n d_M_isSettled_0 rfl ?_ | refine jm_aload_nN d_M_isSettled_0 rfl ?_
  refine mr_geti d_M_isSettled_1 f_M_135 hm (by decide) rfl ?_
  first | refine jm_bz_eq 31 d_M_isSettled_4 (by decide) (fun hb4 => ?_) (fun hb4 => ?_) | refine jm_if_eq 31 d_M_isSettled_4 (by decide) (fun hb4 => ?_) (fun hb4 => ?_)
  · refine jm_iconstL (v := 0) d_M_isSettled_31 (by decide) ?_
    exact jm_zret d_M_isSettled_32 rfl (by first | rfl | (split <;> rfl)) ⟨rfl, by first | rw [if_neg (fun q : setS S k => q.1 hb4)] | (rw [nI_clamp (show k < 2 ^ 31 by omega)] at hb24; first | rw [if_neg (fun q : setS S k => hb24 q.2)] | rw [if_pos (⟨hb4, Decidable.not_not.mp hb24⟩ : setS S k)])⟩
  · first | refine jm_aload_n d_M_isSettled_7 rfl ?_ | refine jm_aload_nN d_M_isSettled_7 rfl ?_
    refine mr_geta d_M_isSettled_8 f_M_80 hm (by decide) (by decide) ?_
    refine jm_iload_n d_M_isSettled_11 rfl ?_
    refine mr_ld _ d_M_isSettled_12 hm (by decide) (by decide) rfl (b8 (by omega)) ?_
    first | refine jm_aload_n d_M_isSettled_13 rfl ?_ | refine jm_aload_nN d_M_isSettled_13 rfl ?_
    refine mr_geta d_M_isSettled_14 f_M_34 hm (by decide) (by decide) ?_
    first | refine jm_aload_n d_M_isSettled_17 rfl ?_ | refine jm_aload_nN d_M_isSettled_17 rfl ?_
    refine mr_geta d_M_isSettled_18 f_M_28 hm (by decide) (by decide) ?_
    refine jm_iload_n d_M_isSettled_21 rfl ?_
    refine mr_ld _ d_M_isSettled_22 hm (by decide) (by decide) rfl (b8 (by omega)) ?_
    refine mr_ld _ d_M_isSettled_23 hm (by decide) (by decide) rfl (by obtain ⟨q, r, q1, q2, q3, q4⟩ := hp hb4 k hk; rw [nI_clamp (show k < 2 ^ 31 by omega), q3]; exact b8 q1) ?_
    refine jm_icmp_ne 31 d_M_isSettled_24 (by decide) (fun hb24 => ?_) (fun hb24 => ?_)
    · refine jm_iconstL (v := 0) d_M_isSettled_31 (by decide) ?_
      exact jm_zret d_M_isSettled_32 rfl (by first | rfl | (split <;> rfl)) ⟨rfl, by first | rw [if_neg (fun q : setS S k => q.1 hb4)] | (rw [nI_clamp (show k < 2 ^ 31 by omega)] at hb24; first | rw [if_neg (fun q : setS S k => hb24 q.2)] | rw [if_pos (⟨hb4, Decidable.not_not.mp hb24⟩ : setS S k)])⟩
    · refine jm_iconstL (v := 1) d_M_isSettled_27 (by decide) ?_
      refine jm_goto 32 d_M_isSettled_28 (by decide) ?_
      exact jm_zret d_M_isSettled_32 rfl (by first | rfl | (split <;> rfl)) ⟨rfl, by first | rw [if_neg (fun q : setS S k => q.1 hb4)] | (rw [nI_clamp (show k < 2 ^ 31 by omega)] at hb24; first | rw [if_neg (fun q : setS S k => hb24 q.2)] | rw [if_pos (⟨hb4, Decidable.not_not.mp hb24⟩ : setS S k)])⟩
theorem k_M_isLost {n k : Nat} (hs : S 2 0 ≠ 0) (hk : k < n) (h8 : n ≤ 8) (hp : ptOK S n) : mA Γ m_M_isLost d m ar [.int (nI k)] S (some (.int (if lostS S k then 1 else 0))) := by
  intro h hm
  refine jm_entry (by decide +kernel) (List.forall_mem_cons.mpr ⟨rfl, List.forall_mem_cons.mpr ⟨rfl, fun _ h => nomatch h⟩⟩) (Nat.le_of_ble_eq_true rfl) ?_
  show jm_W _ _ _ _ _ _ 0 [some (.ref m), some (.int (nI k))] [] _
  first | refine jm_aload_n d_M_isLost_0 rfl ?_ | refine jm_aload_nN d_M_isLost_0 rfl ?_
  refine mr_geta d_M_isLost_1 f_M_83 hm (by decide) (by decide) ?_
  first | refine jm_aload_n d_M_isLost_4 rfl ?_ | refine jm_aload_nN d_M_isLost_4 rfl ?_
  refine mr_geta d_M_isLost_5 f_M_31 hm (by decide) (by decide) ?_
  first | refine jm_aload_n d_M_isLost_8 rfl ?_ | refine jm_aload_nN d_M_isLost_8 rfl ?_
  refine mr_geta d_M_isLost_9 f_M_28 hm (by decide) (by decide) ?_
  refine jm_iload_n d_M_isLost_12 rfl ?_
  refine mr_ld _ d_M_isLost_13 hm (by decide) (by decide) rfl (b8 (by omega)) ?_
  refine mr_ld _ d_M_isLost_14 hm (by decide) (by decide) rfl (by obtain ⟨q, r, q1, q2, q3, q4⟩ := hp hs k hk; rw [nI_clamp (show k < 2 ^ 31 by omega), q3]; exact b8 q1) ?_
  refine mr_ld _ d_M_isLost_15 hm (by decide) (by decide) rfl (by obtain ⟨q, r, q1, q2, q3, q4⟩ := hp hs k hk; rw [nI_clamp (show k < 2 ^ 31 by omega), q3, nI_clamp (show q < 2 ^ 31 by omega), q4]; exact b8 q2) ?_
  first | refine jm_aload_n d_M_isLost_16 rfl ?_ | refine jm_aload_nN d_M_isLost_16 rfl ?_
  refine mr_geta d_M_isLost_17 f_M_34 hm (by decide) (by decide) ?_
  first | refine jm_aload_n d_M_isLost_20 rfl ?_ | refine jm_aload_nN d_M_isLost_20 rfl ?_
  refine mr_geta d_M_isLost_21 f_M_28 hm (by decide) (by decide) ?_
  refine jm_iload_n d_M_isLost_24 rfl ?_
  refine mr_ld _ d_M_isLost_25 hm (by decide) (by decide) rfl (b8 (by omega)) ?_
  refine mr_ld _ d_M_isLost_26 hm (by decide) (by decide) rfl (by obtain ⟨q, r, q1, q2, q3, q4⟩ := hp hs k hk; rw [nI_clamp (show k < 2 ^ 31 by omega), q3]; exact b8 q1) ?_
  refine jm_icmp_ne 34 d_M_isLost_27 (by decide) (fun hb27 => ?_) (fun hb27 => ?_)
  · refine jm_iconstL (v := 0) d_M_isLost_34 (by decide) ?_
    exact jm_zret d_M_isLost_35 rfl (by first | rfl | (split <;> rfl)) ⟨rfl, by rw [nI_clamp (show k < 2 ^ 31 by omega)] at hb27; first | rw [if_neg hb27] | rw [if_pos (Decidable.not_not.mp hb27)]⟩
  · refine jm_iconstL (v := 1) d_M_isLost_30 (by decide) ?_
    refine jm_goto 35 d_M_isLost_31 (by decide) ?_
    exact jm_zret d_M_isLost_35 rfl (by first | rfl | (split <;> rfl)) ⟨rfl, by rw [nI_clamp (show k < 2 ^ 31 by omega)] at hb27; first | rw [if_neg hb27] | rw [if_pos (Decidable.not_not.mp hb27)]⟩
def anyB (f : Nat → Bool) : Nat → Bool
  | 0 => false
  | k + 1 => anyB f k || f k
abbrev wideB (S : mS) (k : Nat) : Bool := decide (S 15 k ≠ 0)
abbrev lostB (S : mS) (k : Nat) : Bool := decide (lostS S k)
abbrev openB (S : mS) (k : Nat) : Bool := decide (¬ setS S k ∧ ¬ lostS S k)
abbrev bz (b : Bool) : Int32 := if b = true then 1 else 0
theorem orA1 {f : Nat → Bool} {k : Nat} (h : anyB f k = true) : bz (anyB f (k + 1)) = 1 := by simp [anyB, h]
theorem orA2 {f : Nat → Bool} {k : Nat} (h : f k = true) : bz (anyB f (k + 1)) = 1 := by simp [anyB, h]
theorem orA0 {f : Nat → Bool} {k : Nat} (h : ¬ anyB f k = true) (h2 : ¬ f k = true) : bz (anyB f (k + 1)) = 0 := by simp [anyB, h, h2]
/-- what the state is -/
def stF (S : mS) (n : Nat) : Int32 := if S 2 0 = 0 then 0 else if anyB (wideB S) n = true then 3 else if anyB (openB S) n = true then 0 else if anyB (lostB S) n = true then 2 else 1
theorem lp_M_state {rc rs n : Nat} (hd : 1 ≤ d) (hn : S 1 0 = nI n) (h8 : n ≤ 8) (hs : S 2 0 ≠ 0) (hp : ptOK S n) (hm : mo h m ar S) : ∀ j k, k + j = n → jm_W Γ m_M_state d rc rs (fun oc h' => h' = h ∧ oc = .inl (some (.int (stF S n)))) 18 [some (.ref m), some (.int (bz (anyB (wideB S) k))), some (.int (bz (anyB (lostB S) k))), some (.int (bz (anyB (openB S) k))), some (.int (nI k))] [] h := by
  intro j
  induction j with
  | zero =>
    intro k hk
    have hk' : k = n := by omega
    subst hk'
    refine jm_iload d_M_state_18 rfl ?_
    first | refine jm_aload_n d_M_state_20 rfl ?_ | refine jm_aload_nN d_M_state_20 rfl ?_
    refine mr_geti d_M_state_21 f_M_124 hm (by decide) rfl ?_
    refine jm_icmp_ge 100 d_M_state_24 (by decide) (fun hb24 => ?_) (fun hb24 => ?_)
    · refine jm_iload_n d_M_state_100 rfl ?_
      first | refine jm_bz_eq 108 d_M_state_101 (by decide) (fun hb101 => ?_) (fun hb101 => ?_) | refine jm_if_eq 108 d_M_state_101 (by decide) (fun hb101 => ?_) (fun hb101 => ?_)
      · refine jm_iload_n d_M_state_108 rfl ?_
        first | refine jm_bz_eq 116 d_M_state_109 (by decide) (fun hb109 => ?_) (fun hb109 => ?_) | refine jm_if_eq 116 d_M_state_109 (by decide) (fun hb109 => ?_) (fun hb109 => ?_)
        · refine jm_iload_n d_M_state_116 rfl ?_
          first | refine jm_bz_eq 124 d_M_state_117 (by decide) (fun hb117 => ?_) (fun hb117 => ?_) | refine jm_if_eq 124 d_M_state_117 (by decide) (fun hb117 => ?_) (fun hb117 => ?_)
          · refine jm_iconstL (v := 1) d_M_state_124 (by decide) ?_
            exact jm_iret d_M_state_125 rfl ⟨rfl, by simp only [stF, if_neg hs]; simp_all⟩
          · refine jm_iconstL (v := 2) d_M_state_120 (by decide) ?_
            refine jm_goto 125 d_M_state_121 (by decide) ?_
            exact jm_iret d_M_state_125 rfl ⟨rfl, by simp only [stF, if_neg hs]; simp_all⟩
        · refine jm_iconstL (v := 0) d_M_state_112 (by decide) ?_
          refine jm_goto 125 d_M_state_113 (by decide) ?_
          exact jm_iret d_M_state_125 rfl ⟨rfl, by simp only [stF, if_neg hs]; simp_all⟩
      · refine jm_iconstL (v := 3) d_M_state_104 (by decide) ?_
        refine jm_goto 125 d_M_state_105 (by decide) ?_
        exact jm_iret d_M_state_125 rfl ⟨rfl, by simp only [stF, if_neg hs]; simp_all⟩
    · exact absurd (by rw [hn]; exact nI_le (by omega) (by omega)) hb24
  | succ j ih =>
    intro k hk
    have hkn : k < n := by omega
    have hc := nI_clamp (show k < 2 ^ 31 by omega)
    refine jm_iload d_M_state_18 rfl ?_
    first | refine jm_aload_n d_M_state_20 rfl ?_ | refine jm_aload_nN d_M_state_20 rfl ?_
    refine mr_geti d_M_state_21 f_M_124 hm (by decide) rfl ?_
    refine jm_icmp_ge 100 d_M_state_24 (by decide) (fun hb24 => ?_) (fun hb24 => ?_)
    · rw [hn] at hb24; exact absurd hb24 (nI_ge (by omega) (by omega))
    · refine jm_iload_n d_M_state_27 rfl ?_
      first | refine jm_bz_ne 41 d_M_state_28 (by decide) (fun hb28 => ?_) (fun hb28 => ?_) | refine jm_if_ne 41 d_M_state_28 (by decide) (fun hb28 => ?_) (fun hb28 => ?_)
      · refine jm_iconstL (v := 1) d_M_state_41 (by decide) ?_
        refine jm_goto 46 d_M_state_42 (by decide) ?_
        refine jm_istore_n d_M_state_46 (Nat.le_of_ble_eq_true rfl) ?_
        refine jm_iload_n d_M_state_47 rfl ?_
        first | refine jm_bz_ne 60 d_M_state_48 (by decide) (fun hb48 => ?_) (fun hb48 => ?_) | refine jm_if_ne 60 d_M_state_48 (by decide) (fun hb48 => ?_) (fun hb48 => ?_)
        · refine jm_iconstL (v := 1) d_M_state_60 (by decide) ?_
          refine jm_goto 65 d_M_state_61 (by decide) ?_
          refine jm_istore_n d_M_state_65 (Nat.le_of_ble_eq_true rfl) ?_
          refine jm_iload_n d_M_state_66 rfl ?_
          first | refine jm_bz_ne 88 d_M_state_67 (by decide) (fun hb67 => ?_) (fun hb67 => ?_) | refine jm_if_ne 88 d_M_state_67 (by decide) (fun hb67 => ?_) (fun hb67 => ?_)
          · refine jm_iconstL (v := 1) d_M_state_88 (by decide) ?_
            refine jm_goto 93 d_M_state_89 (by decide) ?_
            refine jm_istore_n d_M_state_93 (Nat.le_of_ble_eq_true rfl) ?_
            refine jm_iincL (v := nI (k + 1)) d_M_state_94 rfl (by rw [nI_succ]; rfl) ?_
            refine jm_goto 18 d_M_state_97 (by decide) ?_
            refine (?_ : jm_W _ _ _ _ _ _ 18 [some (.ref m), some (.int (bz (anyB (wideB S) (k + 1)))), some (.int (bz (anyB (lostB S) (k + 1)))), some (.int (bz (anyB (openB S) (k + 1)))), some (.int (nI (k + 1)))] [] h → _) (ih (k + 1) (by omega))
            clear ih
            rw [hc] at *
            (first | rw [show bz (anyB (wideB S) (k + 1)) = 1 from orA1 hb28] | rw [show bz (anyB (wideB S) (k + 1)) = 1 from orA2 (decide_eq_true hb38)] | rw [show bz (anyB (wideB S) (k + 1)) = 0 from orA0 hb28 (fun q => of_decide_eq_true q hb38)])
            (first | rw [show bz (anyB (lostB S) (k + 1)) = 1 from orA1 hb48] | rw [show bz (anyB (lostB S) (k + 1)) = 1 from orA2 (decide_eq_true hb57)] | rw [show bz (anyB (lostB S) (k + 1)) = 0 from orA0 hb48 (fun q => hb57 (of_decide_eq_true q))])
            (first | rw [show bz (anyB (openB S) (k + 1)) = 1 from orA1 hb67] | rw [show bz (anyB (openB S) (k + 1)) = 1 from orA2 (decide_eq_true ⟨hb76, hb85⟩)] | rw [show bz (anyB (openB S) (k + 1)) = 0 from orA0 hb67 (fun q => (of_decide_eq_true q).1 hb76)] | rw [show bz (anyB (openB S) (k + 1)) = 0 from orA0 hb67 (fun q => (of_decide_eq_true q).2 hb85)])
            exact fun e9 => e9
          · first | refine jm_aload_n d_M_state_70 rfl ?_ | refine jm_aload_nN d_M_state_70 rfl ?_
            refine jm_iload d_M_state_71 rfl ?_
            refine mr_callp (As := [_]) d_M_state_73 l_M_235 iw_M_isSettled ew_M_isSettled nv_M_isSettled rfl (Nat.le_of_ble_eq_true rfl) (by omega : 0 + 1 ≤ _) (k_M_isSettled hkn h8 hp) hm ?_
            first | refine jm_bz_ne 92 d_M_state_76 (by decide) (fun hb76 => ?_) (fun hb76 => ?_) | refine jm_if_ne 92 d_M_state_76 (by decide) (fun hb76 => ?_) (fun hb76 => ?_)
            · refine jm_iconstL (v := 0) d_M_state_92 (by decide) ?_
              refine jm_istore_n d_M_state_93 (Nat.le_of_ble_eq_true rfl) ?_
              refine jm_iincL (v := nI (k + 1)) d_M_state_94 rfl (by rw [nI_succ]; rfl) ?_
              refine jm_goto 18 d_M_state_97 (by decide) ?_
              refine (?_ : jm_W _ _ _ _ _ _ 18 [some (.ref m), some (.int (bz (anyB (wideB S) (k + 1)))), some (.int (bz (anyB (lostB S) (k + 1)))), some (.int (bz (anyB (openB S) (k + 1)))), some (.int (nI (k + 1)))] [] h → _) (ih (k + 1) (by omega))
              clear ih
              rw [hc] at *
              (first | rw [show bz (anyB (wideB S) (k + 1)) = 1 from orA1 hb28] | rw [show bz (anyB (wideB S) (k + 1)) = 1 from orA2 (decide_eq_true hb38)] | rw [show bz (anyB (wideB S) (k + 1)) = 0 from orA0 hb28 (fun q => of_decide_eq_true q hb38)])
              (first | rw [show bz (anyB (lostB S) (k + 1)) = 1 from orA1 hb48] | rw [show bz (anyB (lostB S) (k + 1)) = 1 from orA2 (decide_eq_true hb57)] | rw [show bz (anyB (lostB S) (k + 1)) = 0 from orA0 hb48 (fun q => hb57 (of_decide_eq_true q))])
              (first | rw [show bz (anyB (openB S) (k + 1)) = 1 from orA1 hb67] | rw [show bz (anyB (openB S) (k + 1)) = 1 from orA2 (decide_eq_true ⟨hb76, hb85⟩)] | rw [show bz (anyB (openB S) (k + 1)) = 0 from orA0 hb67 (fun q => (of_decide_eq_true q).1 hb76)] | rw [show bz (anyB (openB S) (k + 1)) = 0 from orA0 hb67 (fun q => (of_decide_eq_true q).2 hb85)])
              exact fun e9 => e9
            · first | refine jm_aload_n d_M_state_79 rfl ?_ | refine jm_aload_nN d_M_state_79 rfl ?_
              refine jm_iload d_M_state_80 rfl ?_
              refine mr_callp (As := [_]) d_M_state_82 l_M_232 iw_M_isLost ew_M_isLost nv_M_isLost rfl (Nat.le_of_ble_eq_true rfl) (by omega : 0 + 1 ≤ _) (k_M_isLost hs hkn h8 hp) hm ?_
              first | refine jm_bz_ne 92 d_M_state_85 (by decide) (fun hb85 => ?_) (fun hb85 => ?_) | refine jm_if_ne 92 d_M_state_85 (by decide) (fun hb85 => ?_) (fun hb85 => ?_)
              · refine jm_iconstL (v := 0) d_M_state_92 (by decide) ?_
                refine jm_istore_n d_M_state_93 (Nat.le_of_ble_eq_true rfl) ?_
                refine jm_iincL (v := nI (k + 1)) d_M_state_94 rfl (by rw [nI_succ]; rfl) ?_
                refine jm_goto 18 d_M_state_97 (by decide) ?_
                refine (?_ : jm_W _ _ _ _ _ _ 18 [some (.ref m), some (.int (bz (anyB (wideB S) (k + 1)))), some (.int (bz (anyB (lostB S) (k + 1)))), some (.int (bz (anyB (openB S) (k + 1)))), some (.int (nI (k + 1)))] [] h → _) (ih (k + 1) (by omega))
                clear ih
                rw [hc] at *
                (first | rw [show bz (anyB (wideB S) (k + 1)) = 1 from orA1 hb28] | rw [show bz (anyB (wideB S) (k + 1)) = 1 from orA2 (decide_eq_true hb38)] | rw [show bz (anyB (wideB S) (k + 1)) = 0 from orA0 hb28 (fun q => of_decide_eq_true q hb38)])
                (first | rw [show bz (anyB (lostB S) (k + 1)) = 1 from orA1 hb48] | rw [show bz (anyB (lostB S) (k + 1)) = 1 from orA2 (decide_eq_true hb57)] | rw [show bz (anyB (lostB S) (k + 1)) = 0 from orA0 hb48 (fun q => hb57 (of_decide_eq_true q))])
                (first | rw [show bz (anyB (openB S) (k + 1)) = 1 from orA1 hb67] | rw [show bz (anyB (openB S) (k + 1)) = 1 from orA2 (decide_eq_true ⟨hb76, hb85⟩)] | rw [show bz (anyB (openB S) (k + 1)) = 0 from orA0 hb67 (fun q => (of_decide_eq_true q).1 hb76)] | rw [show bz (anyB (openB S) (k + 1)) = 0 from orA0 hb67 (fun q => (of_decide_eq_true q).2 hb85)])
                exact fun e9 => e9
              · refine jm_iconstL (v := 1) d_M_state_88 (by decide) ?_
                refine jm_goto 93 d_M_state_89 (by decide) ?_
                refine jm_istore_n d_M_state_93 (Nat.le_of_ble_eq_true rfl) ?_
                refine jm_iincL (v := nI (k + 1)) d_M_state_94 rfl (by rw [nI_succ]; rfl) ?_
                refine jm_goto 18 d_M_state_97 (by decide) ?_
                refine (?_ : jm_W _ _ _ _ _ _ 18 [some (.ref m), some (.int (bz (anyB (wideB S) (k + 1)))), some (.int (bz (anyB (lostB S) (k + 1)))), some (.int (bz (anyB (openB S) (k + 1)))), some (.int (nI (k + 1)))] [] h → _) (ih (k + 1) (by omega))
                clear ih
                rw [hc] at *
                (first | rw [show bz (anyB (wideB S) (k + 1)) = 1 from orA1 hb28] | rw [show bz (anyB (wideB S) (k + 1)) = 1 from orA2 (decide_eq_true hb38)] | rw [show bz (anyB (wideB S) (k + 1)) = 0 from orA0 hb28 (fun q => of_decide_eq_true q hb38)])
                (first | rw [show bz (anyB (lostB S) (k + 1)) = 1 from orA1 hb48] | rw [show bz (anyB (lostB S) (k + 1)) = 1 from orA2 (decide_eq_true hb57)] | rw [show bz (anyB (lostB S) (k + 1)) = 0 from orA0 hb48 (fun q => hb57 (of_decide_eq_true q))])
                (first | rw [show bz (anyB (openB S) (k + 1)) = 1 from orA1 hb67] | rw [show bz (anyB (openB S) (k + 1)) = 1 from orA2 (decide_eq_true ⟨hb76, hb85⟩)] | rw [show bz (anyB (openB S) (k + 1)) = 0 from orA0 hb67 (fun q => (of_decide_eq_true q).1 hb76)] | rw [show bz (anyB (openB S) (k + 1)) = 0 from orA0 hb67 (fun q => (of_decide_eq_true q).2 hb85)])
                exact fun e9 => e9
        · first | refine jm_aload_n d_M_state_51 rfl ?_ | refine jm_aload_nN d_M_state_51 rfl ?_
          refine jm_iload d_M_state_52 rfl ?_
          refine mr_callp (As := [_]) d_M_state_54 l_M_232 iw_M_isLost ew_M_isLost nv_M_isLost rfl (Nat.le_of_ble_eq_true rfl) (by omega : 0 + 1 ≤ _) (k_M_isLost hs hkn h8 hp) hm ?_
          first | refine jm_bz_eq 64 d_M_state_57 (by decide) (fun hb57 => ?_) (fun hb57 => ?_) | refine jm_if_eq 64 d_M_state_57 (by decide) (fun hb57 => ?_) (fun hb57 => ?_)
          · refine jm_iconstL (v := 0) d_M_state_64 (by decide) ?_
            refine jm_istore_n d_M_state_65 (Nat.le_of_ble_eq_true rfl) ?_
            refine jm_iload_n d_M_state_66 rfl ?_
            first | refine jm_bz_ne 88 d_M_state_67 (by decide) (fun hb67 => ?_) (fun hb67 => ?_) | refine jm_if_ne 88 d_M_state_67 (by decide) (fun hb67 => ?_) (fun hb67 => ?_)
            · refine jm_iconstL (v := 1) d_M_state_88 (by decide) ?_
              refine jm_goto 93 d_M_state_89 (by decide) ?_
              refine jm_istore_n d_M_state_93 (Nat.le_of_ble_eq_true rfl) ?_
              refine jm_iincL (v := nI (k + 1)) d_M_state_94 rfl (by rw [nI_succ]; rfl) ?_
              refine jm_goto 18 d_M_state_97 (by decide) ?_
              refine (?_ : jm_W _ _ _ _ _ _ 18 [some (.ref m), some (.int (bz (anyB (wideB S) (k + 1)))), some (.int (bz (anyB (lostB S) (k + 1)))), some (.int (bz (anyB (openB S) (k + 1)))), some (.int (nI (k + 1)))] [] h → _) (ih (k + 1) (by omega))
              clear ih
              rw [hc] at *
              (first | rw [show bz (anyB (wideB S) (k + 1)) = 1 from orA1 hb28] | rw [show bz (anyB (wideB S) (k + 1)) = 1 from orA2 (decide_eq_true hb38)] | rw [show bz (anyB (wideB S) (k + 1)) = 0 from orA0 hb28 (fun q => of_decide_eq_true q hb38)])
              (first | rw [show bz (anyB (lostB S) (k + 1)) = 1 from orA1 hb48] | rw [show bz (anyB (lostB S) (k + 1)) = 1 from orA2 (decide_eq_true hb57)] | rw [show bz (anyB (lostB S) (k + 1)) = 0 from orA0 hb48 (fun q => hb57 (of_decide_eq_true q))])
              (first | rw [show bz (anyB (openB S) (k + 1)) = 1 from orA1 hb67] | rw [show bz (anyB (openB S) (k + 1)) = 1 from orA2 (decide_eq_true ⟨hb76, hb85⟩)] | rw [show bz (anyB (openB S) (k + 1)) = 0 from orA0 hb67 (fun q => (of_decide_eq_true q).1 hb76)] | rw [show bz (anyB (openB S) (k + 1)) = 0 from orA0 hb67 (fun q => (of_decide_eq_true q).2 hb85)])
              exact fun e9 => e9
            · first | refine jm_aload_n d_M_state_70 rfl ?_ | refine jm_aload_nN d_M_state_70 rfl ?_
              refine jm_iload d_M_state_71 rfl ?_
              refine mr_callp (As := [_]) d_M_state_73 l_M_235 iw_M_isSettled ew_M_isSettled nv_M_isSettled rfl (Nat.le_of_ble_eq_true rfl) (by omega : 0 + 1 ≤ _) (k_M_isSettled hkn h8 hp) hm ?_
              first | refine jm_bz_ne 92 d_M_state_76 (by decide) (fun hb76 => ?_) (fun hb76 => ?_) | refine jm_if_ne 92 d_M_state_76 (by decide) (fun hb76 => ?_) (fun hb76 => ?_)
              · refine jm_iconstL (v := 0) d_M_state_92 (by decide) ?_
                refine jm_istore_n d_M_state_93 (Nat.le_of_ble_eq_true rfl) ?_
                refine jm_iincL (v := nI (k + 1)) d_M_state_94 rfl (by rw [nI_succ]; rfl) ?_
                refine jm_goto 18 d_M_state_97 (by decide) ?_
                refine (?_ : jm_W _ _ _ _ _ _ 18 [some (.ref m), some (.int (bz (anyB (wideB S) (k + 1)))), some (.int (bz (anyB (lostB S) (k + 1)))), some (.int (bz (anyB (openB S) (k + 1)))), some (.int (nI (k + 1)))] [] h → _) (ih (k + 1) (by omega))
                clear ih
                rw [hc] at *
                (first | rw [show bz (anyB (wideB S) (k + 1)) = 1 from orA1 hb28] | rw [show bz (anyB (wideB S) (k + 1)) = 1 from orA2 (decide_eq_true hb38)] | rw [show bz (anyB (wideB S) (k + 1)) = 0 from orA0 hb28 (fun q => of_decide_eq_true q hb38)])
                (first | rw [show bz (anyB (lostB S) (k + 1)) = 1 from orA1 hb48] | rw [show bz (anyB (lostB S) (k + 1)) = 1 from orA2 (decide_eq_true hb57)] | rw [show bz (anyB (lostB S) (k + 1)) = 0 from orA0 hb48 (fun q => hb57 (of_decide_eq_true q))])
                (first | rw [show bz (anyB (openB S) (k + 1)) = 1 from orA1 hb67] | rw [show bz (anyB (openB S) (k + 1)) = 1 from orA2 (decide_eq_true ⟨hb76, hb85⟩)] | rw [show bz (anyB (openB S) (k + 1)) = 0 from orA0 hb67 (fun q => (of_decide_eq_true q).1 hb76)] | rw [show bz (anyB (openB S) (k + 1)) = 0 from orA0 hb67 (fun q => (of_decide_eq_true q).2 hb85)])
                exact fun e9 => e9
              · first | refine jm_aload_n d_M_state_79 rfl ?_ | refine jm_aload_nN d_M_state_79 rfl ?_
                refine jm_iload d_M_state_80 rfl ?_
                refine mr_callp (As := [_]) d_M_state_82 l_M_232 iw_M_isLost ew_M_isLost nv_M_isLost rfl (Nat.le_of_ble_eq_true rfl) (by omega : 0 + 1 ≤ _) (k_M_isLost hs hkn h8 hp) hm ?_
                first | refine jm_bz_ne 92 d_M_state_85 (by decide) (fun hb85 => ?_) (fun hb85 => ?_) | refine jm_if_ne 92 d_M_state_85 (by decide) (fun hb85 => ?_) (fun hb85 => ?_)
                · refine jm_iconstL (v := 0) d_M_state_92 (by decide) ?_
                  refine jm_istore_n d_M_state_93 (Nat.le_of_ble_eq_true rfl) ?_
                  refine jm_iincL (v := nI (k + 1)) d_M_state_94 rfl (by rw [nI_succ]; rfl) ?_
                  refine jm_goto 18 d_M_state_97 (by decide) ?_
                  refine (?_ : jm_W _ _ _ _ _ _ 18 [some (.ref m), some (.int (bz (anyB (wideB S) (k + 1)))), some (.int (bz (anyB (lostB S) (k + 1)))), some (.int (bz (anyB (openB S) (k + 1)))), some (.int (nI (k + 1)))] [] h → _) (ih (k + 1) (by omega))
                  clear ih
                  rw [hc] at *
                  (first | rw [show bz (anyB (wideB S) (k + 1)) = 1 from orA1 hb28] | rw [show bz (anyB (wideB S) (k + 1)) = 1 from orA2 (decide_eq_true hb38)] | rw [show bz (anyB (wideB S) (k + 1)) = 0 from orA0 hb28 (fun q => of_decide_eq_true q hb38)])
                  (first | rw [show bz (anyB (lostB S) (k + 1)) = 1 from orA1 hb48] | rw [show bz (anyB (lostB S) (k + 1)) = 1 from orA2 (decide_eq_true hb57)] | rw [show bz (anyB (lostB S) (k + 1)) = 0 from orA0 hb48 (fun q => hb57 (of_decide_eq_true q))])
                  (first | rw [show bz (anyB (openB S) (k + 1)) = 1 from orA1 hb67] | rw [show bz (anyB (openB S) (k + 1)) = 1 from orA2 (decide_eq_true ⟨hb76, hb85⟩)] | rw [show bz (anyB (openB S) (k + 1)) = 0 from orA0 hb67 (fun q => (of_decide_eq_true q).1 hb76)] | rw [show bz (anyB (openB S) (k + 1)) = 0 from orA0 hb67 (fun q => (of_decide_eq_true q).2 hb85)])
                  exact fun e9 => e9
                · refine jm_iconstL (v := 1) d_M_state_88 (by decide) ?_
                  refine jm_goto 93 d_M_state_89 (by decide) ?_
                  refine jm_istore_n d_M_state_93 (Nat.le_of_ble_eq_true rfl) ?_
                  refine jm_iincL (v := nI (k + 1)) d_M_state_94 rfl (by rw [nI_succ]; rfl) ?_
                  refine jm_goto 18 d_M_state_97 (by decide) ?_
                  refine (?_ : jm_W _ _ _ _ _ _ 18 [some (.ref m), some (.int (bz (anyB (wideB S) (k + 1)))), some (.int (bz (anyB (lostB S) (k + 1)))), some (.int (bz (anyB (openB S) (k + 1)))), some (.int (nI (k + 1)))] [] h → _) (ih (k + 1) (by omega))
                  clear ih
                  rw [hc] at *
                  (first | rw [show bz (anyB (wideB S) (k + 1)) = 1 from orA1 hb28] | rw [show bz (anyB (wideB S) (k + 1)) = 1 from orA2 (decide_eq_true hb38)] | rw [show bz (anyB (wideB S) (k + 1)) = 0 from orA0 hb28 (fun q => of_decide_eq_true q hb38)])
                  (first | rw [show bz (anyB (lostB S) (k + 1)) = 1 from orA1 hb48] | rw [show bz (anyB (lostB S) (k + 1)) = 1 from orA2 (decide_eq_true hb57)] | rw [show bz (anyB (lostB S) (k + 1)) = 0 from orA0 hb48 (fun q => hb57 (of_decide_eq_true q))])
                  (first | rw [show bz (anyB (openB S) (k + 1)) = 1 from orA1 hb67] | rw [show bz (anyB (openB S) (k + 1)) = 1 from orA2 (decide_eq_true ⟨hb76, hb85⟩)] | rw [show bz (anyB (openB S) (k + 1)) = 0 from orA0 hb67 (fun q => (of_decide_eq_true q).1 hb76)] | rw [show bz (anyB (openB S) (k + 1)) = 0 from orA0 hb67 (fun q => (of_decide_eq_true q).2 hb85)])
                  exact fun e9 => e9
          · refine jm_iconstL (v := 1) d_M_state_60 (by decide) ?_
            refine jm_goto 65 d_M_state_61 (by decide) ?_
            refine jm_istore_n d_M_state_65 (Nat.le_of_ble_eq_true rfl) ?_
            refine jm_iload_n d_M_state_66 rfl ?_
            first | refine jm_bz_ne 88 d_M_state_67 (by decide) (fun hb67 => ?_) (fun hb67 => ?_) | refine jm_if_ne 88 d_M_state_67 (by decide) (fun hb67 => ?_) (fun hb67 => ?_)
            · refine jm_iconstL (v := 1) d_M_state_88 (by decide) ?_
              refine jm_goto 93 d_M_state_89 (by decide) ?_
              refine jm_istore_n d_M_state_93 (Nat.le_of_ble_eq_true rfl) ?_
              refine jm_iincL (v := nI (k + 1)) d_M_state_94 rfl (by rw [nI_succ]; rfl) ?_
              refine jm_goto 18 d_M_state_97 (by decide) ?_
              refine (?_ : jm_W _ _ _ _ _ _ 18 [some (.ref m), some (.int (bz (anyB (wideB S) (k + 1)))), some (.int (bz (anyB (lostB S) (k + 1)))), some (.int (bz (anyB (openB S) (k + 1)))), some (.int (nI (k + 1)))] [] h → _) (ih (k + 1) (by omega))
              clear ih
              rw [hc] at *
              (first | rw [show bz (anyB (wideB S) (k + 1)) = 1 from orA1 hb28] | rw [show bz (anyB (wideB S) (k + 1)) = 1 from orA2 (decide_eq_true hb38)] | rw [show bz (anyB (wideB S) (k + 1)) = 0 from orA0 hb28 (fun q => of_decide_eq_true q hb38)])
              (first | rw [show bz (anyB (lostB S) (k + 1)) = 1 from orA1 hb48] | rw [show bz (anyB (lostB S) (k + 1)) = 1 from orA2 (decide_eq_true hb57)] | rw [show bz (anyB (lostB S) (k + 1)) = 0 from orA0 hb48 (fun q => hb57 (of_decide_eq_true q))])
              (first | rw [show bz (anyB (openB S) (k + 1)) = 1 from orA1 hb67] | rw [show bz (anyB (openB S) (k + 1)) = 1 from orA2 (decide_eq_true ⟨hb76, hb85⟩)] | rw [show bz (anyB (openB S) (k + 1)) = 0 from orA0 hb67 (fun q => (of_decide_eq_true q).1 hb76)] | rw [show bz (anyB (openB S) (k + 1)) = 0 from orA0 hb67 (fun q => (of_decide_eq_true q).2 hb85)])
              exact fun e9 => e9
            · first | refine jm_aload_n d_M_state_70 rfl ?_ | refine jm_aload_nN d_M_state_70 rfl ?_
              refine jm_iload d_M_state_71 rfl ?_
              refine mr_callp (As := [_]) d_M_state_73 l_M_235 iw_M_isSettled ew_M_isSettled nv_M_isSettled rfl (Nat.le_of_ble_eq_true rfl) (by omega : 0 + 1 ≤ _) (k_M_isSettled hkn h8 hp) hm ?_
              first | refine jm_bz_ne 92 d_M_state_76 (by decide) (fun hb76 => ?_) (fun hb76 => ?_) | refine jm_if_ne 92 d_M_state_76 (by decide) (fun hb76 => ?_) (fun hb76 => ?_)
              · refine jm_iconstL (v := 0) d_M_state_92 (by decide) ?_
                refine jm_istore_n d_M_state_93 (Nat.le_of_ble_eq_true rfl) ?_
                refine jm_iincL (v := nI (k + 1)) d_M_state_94 rfl (by rw [nI_succ]; rfl) ?_
                refine jm_goto 18 d_M_state_97 (by decide) ?_
                refine (?_ : jm_W _ _ _ _ _ _ 18 [some (.ref m), some (.int (bz (anyB (wideB S) (k + 1)))), some (.int (bz (anyB (lostB S) (k + 1)))), some (.int (bz (anyB (openB S) (k + 1)))), some (.int (nI (k + 1)))] [] h → _) (ih (k + 1) (by omega))
                clear ih
                rw [hc] at *
                (first | rw [show bz (anyB (wideB S) (k + 1)) = 1 from orA1 hb28] | rw [show bz (anyB (wideB S) (k + 1)) = 1 from orA2 (decide_eq_true hb38)] | rw [show bz (anyB (wideB S) (k + 1)) = 0 from orA0 hb28 (fun q => of_decide_eq_true q hb38)])
                (first | rw [show bz (anyB (lostB S) (k + 1)) = 1 from orA1 hb48] | rw [show bz (anyB (lostB S) (k + 1)) = 1 from orA2 (decide_eq_true hb57)] | rw [show bz (anyB (lostB S) (k + 1)) = 0 from orA0 hb48 (fun q => hb57 (of_decide_eq_true q))])
                (first | rw [show bz (anyB (openB S) (k + 1)) = 1 from orA1 hb67] | rw [show bz (anyB (openB S) (k + 1)) = 1 from orA2 (decide_eq_true ⟨hb76, hb85⟩)] | rw [show bz (anyB (openB S) (k + 1)) = 0 from orA0 hb67 (fun q => (of_decide_eq_true q).1 hb76)] | rw [show bz (anyB (openB S) (k + 1)) = 0 from orA0 hb67 (fun q => (of_decide_eq_true q).2 hb85)])
                exact fun e9 => e9
              · first | refine jm_aload_n d_M_state_79 rfl ?_ | refine jm_aload_nN d_M_state_79 rfl ?_
                refine jm_iload d_M_state_80 rfl ?_
                refine mr_callp (As := [_]) d_M_state_82 l_M_232 iw_M_isLost ew_M_isLost nv_M_isLost rfl (Nat.le_of_ble_eq_true rfl) (by omega : 0 + 1 ≤ _) (k_M_isLost hs hkn h8 hp) hm ?_
                first | refine jm_bz_ne 92 d_M_state_85 (by decide) (fun hb85 => ?_) (fun hb85 => ?_) | refine jm_if_ne 92 d_M_state_85 (by decide) (fun hb85 => ?_) (fun hb85 => ?_)
                · refine jm_iconstL (v := 0) d_M_state_92 (by decide) ?_
                  refine jm_istore_n d_M_state_93 (Nat.le_of_ble_eq_true rfl) ?_
                  refine jm_iincL (v := nI (k + 1)) d_M_state_94 rfl (by rw [nI_succ]; rfl) ?_
                  refine jm_goto 18 d_M_state_97 (by decide) ?_
                  refine (?_ : jm_W _ _ _ _ _ _ 18 [some (.ref m), some (.int (bz (anyB (wideB S) (k + 1)))), some (.int (bz (anyB (lostB S) (k + 1)))), some (.int (bz (anyB (openB S) (k + 1)))), some (.int (nI (k + 1)))] [] h → _) (ih (k + 1) (by omega))
                  clear ih
                  rw [hc] at *
                  (first | rw [show bz (anyB (wideB S) (k + 1)) = 1 from orA1 hb28] | rw [show bz (anyB (wideB S) (k + 1)) = 1 from orA2 (decide_eq_true hb38)] | rw [show bz (anyB (wideB S) (k + 1)) = 0 from orA0 hb28 (fun q => of_decide_eq_true q hb38)])
                  (first | rw [show bz (anyB (lostB S) (k + 1)) = 1 from orA1 hb48] | rw [show bz (anyB (lostB S) (k + 1)) = 1 from orA2 (decide_eq_true hb57)] | rw [show bz (anyB (lostB S) (k + 1)) = 0 from orA0 hb48 (fun q => hb57 (of_decide_eq_true q))])
                  (first | rw [show bz (anyB (openB S) (k + 1)) = 1 from orA1 hb67] | rw [show bz (anyB (openB S) (k + 1)) = 1 from orA2 (decide_eq_true ⟨hb76, hb85⟩)] | rw [show bz (anyB (openB S) (k + 1)) = 0 from orA0 hb67 (fun q => (of_decide_eq_true q).1 hb76)] | rw [show bz (anyB (openB S) (k + 1)) = 0 from orA0 hb67 (fun q => (of_decide_eq_true q).2 hb85)])
                  exact fun e9 => e9
                · refine jm_iconstL (v := 1) d_M_state_88 (by decide) ?_
                  refine jm_goto 93 d_M_state_89 (by decide) ?_
                  refine jm_istore_n d_M_state_93 (Nat.le_of_ble_eq_true rfl) ?_
                  refine jm_iincL (v := nI (k + 1)) d_M_state_94 rfl (by rw [nI_succ]; rfl) ?_
                  refine jm_goto 18 d_M_state_97 (by decide) ?_
                  refine (?_ : jm_W _ _ _ _ _ _ 18 [some (.ref m), some (.int (bz (anyB (wideB S) (k + 1)))), some (.int (bz (anyB (lostB S) (k + 1)))), some (.int (bz (anyB (openB S) (k + 1)))), some (.int (nI (k + 1)))] [] h → _) (ih (k + 1) (by omega))
                  clear ih
                  rw [hc] at *
                  (first | rw [show bz (anyB (wideB S) (k + 1)) = 1 from orA1 hb28] | rw [show bz (anyB (wideB S) (k + 1)) = 1 from orA2 (decide_eq_true hb38)] | rw [show bz (anyB (wideB S) (k + 1)) = 0 from orA0 hb28 (fun q => of_decide_eq_true q hb38)])
                  (first | rw [show bz (anyB (lostB S) (k + 1)) = 1 from orA1 hb48] | rw [show bz (anyB (lostB S) (k + 1)) = 1 from orA2 (decide_eq_true hb57)] | rw [show bz (anyB (lostB S) (k + 1)) = 0 from orA0 hb48 (fun q => hb57 (of_decide_eq_true q))])
                  (first | rw [show bz (anyB (openB S) (k + 1)) = 1 from orA1 hb67] | rw [show bz (anyB (openB S) (k + 1)) = 1 from orA2 (decide_eq_true ⟨hb76, hb85⟩)] | rw [show bz (anyB (openB S) (k + 1)) = 0 from orA0 hb67 (fun q => (of_decide_eq_true q).1 hb76)] | rw [show bz (anyB (openB S) (k + 1)) = 0 from orA0 hb67 (fun q => (of_decide_eq_true q).2 hb85)])
                  exact fun e9 => e9
      · first | refine jm_aload_n d_M_state_31 rfl ?_ | refine jm_aload_nN d_M_state_31 rfl ?_
        refine mr_geta d_M_state_32 f_M_44 hm (by decide) (by decide) ?_
        refine jm_iload d_M_state_35 rfl ?_
        refine mr_ldz _ d_M_state_37 hm (by decide) (by decide) rfl (b8 (by omega)) ?_
        first | refine jm_bz_eq 45 d_M_state_38 (by decide) (fun hb38 => ?_) (fun hb38 => ?_) | refine jm_if_eq 45 d_M_state_38 (by decide) (fun hb38 => ?_) (fun hb38 => ?_)
        · refine jm_iconstL (v := 0) d_M_state_45 (by decide) ?_
          refine jm_istore_n d_M_state_46 (Nat.le_of_ble_eq_true rfl) ?_
          refine jm_iload_n d_M_state_47 rfl ?_
          first | refine jm_bz_ne 60 d_M_state_48 (by decide) (fun hb48 => ?_) (fun hb48 => ?_) | refine jm_if_ne 60 d_M_state_48 (by decide) (fun hb48 => ?_) (fun hb48 => ?_)
          · refine jm_iconstL (v := 1) d_M_state_60 (by decide) ?_
            refine jm_goto 65 d_M_state_61 (by decide) ?_
            refine jm_istore_n d_M_state_65 (Nat.le_of_ble_eq_true rfl) ?_
            refine jm_iload_n d_M_state_66 rfl ?_
            first | refine jm_bz_ne 88 d_M_state_67 (by decide) (fun hb67 => ?_) (fun hb67 => ?_) | refine jm_if_ne 88 d_M_state_67 (by decide) (fun hb67 => ?_) (fun hb67 => ?_)
            · refine jm_iconstL (v := 1) d_M_state_88 (by decide) ?_
              refine jm_goto 93 d_M_state_89 (by decide) ?_
              refine jm_istore_n d_M_state_93 (Nat.le_of_ble_eq_true rfl) ?_
              refine jm_iincL (v := nI (k + 1)) d_M_state_94 rfl (by rw [nI_succ]; rfl) ?_
              refine jm_goto 18 d_M_state_97 (by decide) ?_
              refine (?_ : jm_W _ _ _ _ _ _ 18 [some (.ref m), some (.int (bz (anyB (wideB S) (k + 1)))), some (.int (bz (anyB (lostB S) (k + 1)))), some (.int (bz (anyB (openB S) (k + 1)))), some (.int (nI (k + 1)))] [] h → _) (ih (k + 1) (by omega))
              clear ih
              rw [hc] at *
              (first | rw [show bz (anyB (wideB S) (k + 1)) = 1 from orA1 hb28] | rw [show bz (anyB (wideB S) (k + 1)) = 1 from orA2 (decide_eq_true hb38)] | rw [show bz (anyB (wideB S) (k + 1)) = 0 from orA0 hb28 (fun q => of_decide_eq_true q hb38)])
              (first | rw [show bz (anyB (lostB S) (k + 1)) = 1 from orA1 hb48] | rw [show bz (anyB (lostB S) (k + 1)) = 1 from orA2 (decide_eq_true hb57)] | rw [show bz (anyB (lostB S) (k + 1)) = 0 from orA0 hb48 (fun q => hb57 (of_decide_eq_true q))])
              (first | rw [show bz (anyB (openB S) (k + 1)) = 1 from orA1 hb67] | rw [show bz (anyB (openB S) (k + 1)) = 1 from orA2 (decide_eq_true ⟨hb76, hb85⟩)] | rw [show bz (anyB (openB S) (k + 1)) = 0 from orA0 hb67 (fun q => (of_decide_eq_true q).1 hb76)] | rw [show bz (anyB (openB S) (k + 1)) = 0 from orA0 hb67 (fun q => (of_decide_eq_true q).2 hb85)])
              exact fun e9 => e9
            · first | refine jm_aload_n d_M_state_70 rfl ?_ | refine jm_aload_nN d_M_state_70 rfl ?_
              refine jm_iload d_M_state_71 rfl ?_
              refine mr_callp (As := [_]) d_M_state_73 l_M_235 iw_M_isSettled ew_M_isSettled nv_M_isSettled rfl (Nat.le_of_ble_eq_true rfl) (by omega : 0 + 1 ≤ _) (k_M_isSettled hkn h8 hp) hm ?_
              first | refine jm_bz_ne 92 d_M_state_76 (by decide) (fun hb76 => ?_) (fun hb76 => ?_) | refine jm_if_ne 92 d_M_state_76 (by decide) (fun hb76 => ?_) (fun hb76 => ?_)
              · refine jm_iconstL (v := 0) d_M_state_92 (by decide) ?_
                refine jm_istore_n d_M_state_93 (Nat.le_of_ble_eq_true rfl) ?_
                refine jm_iincL (v := nI (k + 1)) d_M_state_94 rfl (by rw [nI_succ]; rfl) ?_
                refine jm_goto 18 d_M_state_97 (by decide) ?_
                refine (?_ : jm_W _ _ _ _ _ _ 18 [some (.ref m), some (.int (bz (anyB (wideB S) (k + 1)))), some (.int (bz (anyB (lostB S) (k + 1)))), some (.int (bz (anyB (openB S) (k + 1)))), some (.int (nI (k + 1)))] [] h → _) (ih (k + 1) (by omega))
                clear ih
                rw [hc] at *
                (first | rw [show bz (anyB (wideB S) (k + 1)) = 1 from orA1 hb28] | rw [show bz (anyB (wideB S) (k + 1)) = 1 from orA2 (decide_eq_true hb38)] | rw [show bz (anyB (wideB S) (k + 1)) = 0 from orA0 hb28 (fun q => of_decide_eq_true q hb38)])
                (first | rw [show bz (anyB (lostB S) (k + 1)) = 1 from orA1 hb48] | rw [show bz (anyB (lostB S) (k + 1)) = 1 from orA2 (decide_eq_true hb57)] | rw [show bz (anyB (lostB S) (k + 1)) = 0 from orA0 hb48 (fun q => hb57 (of_decide_eq_true q))])
                (first | rw [show bz (anyB (openB S) (k + 1)) = 1 from orA1 hb67] | rw [show bz (anyB (openB S) (k + 1)) = 1 from orA2 (decide_eq_true ⟨hb76, hb85⟩)] | rw [show bz (anyB (openB S) (k + 1)) = 0 from orA0 hb67 (fun q => (of_decide_eq_true q).1 hb76)] | rw [show bz (anyB (openB S) (k + 1)) = 0 from orA0 hb67 (fun q => (of_decide_eq_true q).2 hb85)])
                exact fun e9 => e9
              · first | refine jm_aload_n d_M_state_79 rfl ?_ | refine jm_aload_nN d_M_state_79 rfl ?_
                refine jm_iload d_M_state_80 rfl ?_
                refine mr_callp (As := [_]) d_M_state_82 l_M_232 iw_M_isLost ew_M_isLost nv_M_isLost rfl (Nat.le_of_ble_eq_true rfl) (by omega : 0 + 1 ≤ _) (k_M_isLost hs hkn h8 hp) hm ?_
                first | refine jm_bz_ne 92 d_M_state_85 (by decide) (fun hb85 => ?_) (fun hb85 => ?_) | refine jm_if_ne 92 d_M_state_85 (by decide) (fun hb85 => ?_) (fun hb85 => ?_)
                · refine jm_iconstL (v := 0) d_M_state_92 (by decide) ?_
                  refine jm_istore_n d_M_state_93 (Nat.le_of_ble_eq_true rfl) ?_
                  refine jm_iincL (v := nI (k + 1)) d_M_state_94 rfl (by rw [nI_succ]; rfl) ?_
                  refine jm_goto 18 d_M_state_97 (by decide) ?_
                  refine (?_ : jm_W _ _ _ _ _ _ 18 [some (.ref m), some (.int (bz (anyB (wideB S) (k + 1)))), some (.int (bz (anyB (lostB S) (k + 1)))), some (.int (bz (anyB (openB S) (k + 1)))), some (.int (nI (k + 1)))] [] h → _) (ih (k + 1) (by omega))
                  clear ih
                  rw [hc] at *
                  (first | rw [show bz (anyB (wideB S) (k + 1)) = 1 from orA1 hb28] | rw [show bz (anyB (wideB S) (k + 1)) = 1 from orA2 (decide_eq_true hb38)] | rw [show bz (anyB (wideB S) (k + 1)) = 0 from orA0 hb28 (fun q => of_decide_eq_true q hb38)])
                  (first | rw [show bz (anyB (lostB S) (k + 1)) = 1 from orA1 hb48] | rw [show bz (anyB (lostB S) (k + 1)) = 1 from orA2 (decide_eq_true hb57)] | rw [show bz (anyB (lostB S) (k + 1)) = 0 from orA0 hb48 (fun q => hb57 (of_decide_eq_true q))])
                  (first | rw [show bz (anyB (openB S) (k + 1)) = 1 from orA1 hb67] | rw [show bz (anyB (openB S) (k + 1)) = 1 from orA2 (decide_eq_true ⟨hb76, hb85⟩)] | rw [show bz (anyB (openB S) (k + 1)) = 0 from orA0 hb67 (fun q => (of_decide_eq_true q).1 hb76)] | rw [show bz (anyB (openB S) (k + 1)) = 0 from orA0 hb67 (fun q => (of_decide_eq_true q).2 hb85)])
                  exact fun e9 => e9
                · refine jm_iconstL (v := 1) d_M_state_88 (by decide) ?_
                  refine jm_goto 93 d_M_state_89 (by decide) ?_
                  refine jm_istore_n d_M_state_93 (Nat.le_of_ble_eq_true rfl) ?_
                  refine jm_iincL (v := nI (k + 1)) d_M_state_94 rfl (by rw [nI_succ]; rfl) ?_
                  refine jm_goto 18 d_M_state_97 (by decide) ?_
                  refine (?_ : jm_W _ _ _ _ _ _ 18 [some (.ref m), some (.int (bz (anyB (wideB S) (k + 1)))), some (.int (bz (anyB (lostB S) (k + 1)))), some (.int (bz (anyB (openB S) (k + 1)))), some (.int (nI (k + 1)))] [] h → _) (ih (k + 1) (by omega))
                  clear ih
                  rw [hc] at *
                  (first | rw [show bz (anyB (wideB S) (k + 1)) = 1 from orA1 hb28] | rw [show bz (anyB (wideB S) (k + 1)) = 1 from orA2 (decide_eq_true hb38)] | rw [show bz (anyB (wideB S) (k + 1)) = 0 from orA0 hb28 (fun q => of_decide_eq_true q hb38)])
                  (first | rw [show bz (anyB (lostB S) (k + 1)) = 1 from orA1 hb48] | rw [show bz (anyB (lostB S) (k + 1)) = 1 from orA2 (decide_eq_true hb57)] | rw [show bz (anyB (lostB S) (k + 1)) = 0 from orA0 hb48 (fun q => hb57 (of_decide_eq_true q))])
                  (first | rw [show bz (anyB (openB S) (k + 1)) = 1 from orA1 hb67] | rw [show bz (anyB (openB S) (k + 1)) = 1 from orA2 (decide_eq_true ⟨hb76, hb85⟩)] | rw [show bz (anyB (openB S) (k + 1)) = 0 from orA0 hb67 (fun q => (of_decide_eq_true q).1 hb76)] | rw [show bz (anyB (openB S) (k + 1)) = 0 from orA0 hb67 (fun q => (of_decide_eq_true q).2 hb85)])
                  exact fun e9 => e9
          · first | refine jm_aload_n d_M_state_51 rfl ?_ | refine jm_aload_nN d_M_state_51 rfl ?_
            refine jm_iload d_M_state_52 rfl ?_
            refine mr_callp (As := [_]) d_M_state_54 l_M_232 iw_M_isLost ew_M_isLost nv_M_isLost rfl (Nat.le_of_ble_eq_true rfl) (by omega : 0 + 1 ≤ _) (k_M_isLost hs hkn h8 hp) hm ?_
            first | refine jm_bz_eq 64 d_M_state_57 (by decide) (fun hb57 => ?_) (fun hb57 => ?_) | refine jm_if_eq 64 d_M_state_57 (by decide) (fun hb57 => ?_) (fun hb57 => ?_)
            · refine jm_iconstL (v := 0) d_M_state_64 (by decide) ?_
              refine jm_istore_n d_M_state_65 (Nat.le_of_ble_eq_true rfl) ?_
              refine jm_iload_n d_M_state_66 rfl ?_
              first | refine jm_bz_ne 88 d_M_state_67 (by decide) (fun hb67 => ?_) (fun hb67 => ?_) | refine jm_if_ne 88 d_M_state_67 (by decide) (fun hb67 => ?_) (fun hb67 => ?_)
              · refine jm_iconstL (v := 1) d_M_state_88 (by decide) ?_
                refine jm_goto 93 d_M_state_89 (by decide) ?_
                refine jm_istore_n d_M_state_93 (Nat.le_of_ble_eq_true rfl) ?_
                refine jm_iincL (v := nI (k + 1)) d_M_state_94 rfl (by rw [nI_succ]; rfl) ?_
                refine jm_goto 18 d_M_state_97 (by decide) ?_
                refine (?_ : jm_W _ _ _ _ _ _ 18 [some (.ref m), some (.int (bz (anyB (wideB S) (k + 1)))), some (.int (bz (anyB (lostB S) (k + 1)))), some (.int (bz (anyB (openB S) (k + 1)))), some (.int (nI (k + 1)))] [] h → _) (ih (k + 1) (by omega))
                clear ih
                rw [hc] at *
                (first | rw [show bz (anyB (wideB S) (k + 1)) = 1 from orA1 hb28] | rw [show bz (anyB (wideB S) (k + 1)) = 1 from orA2 (decide_eq_true hb38)] | rw [show bz (anyB (wideB S) (k + 1)) = 0 from orA0 hb28 (fun q => of_decide_eq_true q hb38)])
                (first | rw [show bz (anyB (lostB S) (k + 1)) = 1 from orA1 hb48] | rw [show bz (anyB (lostB S) (k + 1)) = 1 from orA2 (decide_eq_true hb57)] | rw [show bz (anyB (lostB S) (k + 1)) = 0 from orA0 hb48 (fun q => hb57 (of_decide_eq_true q))])
                (first | rw [show bz (anyB (openB S) (k + 1)) = 1 from orA1 hb67] | rw [show bz (anyB (openB S) (k + 1)) = 1 from orA2 (decide_eq_true ⟨hb76, hb85⟩)] | rw [show bz (anyB (openB S) (k + 1)) = 0 from orA0 hb67 (fun q => (of_decide_eq_true q).1 hb76)] | rw [show bz (anyB (openB S) (k + 1)) = 0 from orA0 hb67 (fun q => (of_decide_eq_true q).2 hb85)])
                exact fun e9 => e9
              · first | refine jm_aload_n d_M_state_70 rfl ?_ | refine jm_aload_nN d_M_state_70 rfl ?_
                refine jm_iload d_M_state_71 rfl ?_
                refine mr_callp (As := [_]) d_M_state_73 l_M_235 iw_M_isSettled ew_M_isSettled nv_M_isSettled rfl (Nat.le_of_ble_eq_true rfl) (by omega : 0 + 1 ≤ _) (k_M_isSettled hkn h8 hp) hm ?_
                first | refine jm_bz_ne 92 d_M_state_76 (by decide) (fun hb76 => ?_) (fun hb76 => ?_) | refine jm_if_ne 92 d_M_state_76 (by decide) (fun hb76 => ?_) (fun hb76 => ?_)
                · refine jm_iconstL (v := 0) d_M_state_92 (by decide) ?_
                  refine jm_istore_n d_M_state_93 (Nat.le_of_ble_eq_true rfl) ?_
                  refine jm_iincL (v := nI (k + 1)) d_M_state_94 rfl (by rw [nI_succ]; rfl) ?_
                  refine jm_goto 18 d_M_state_97 (by decide) ?_
                  refine (?_ : jm_W _ _ _ _ _ _ 18 [some (.ref m), some (.int (bz (anyB (wideB S) (k + 1)))), some (.int (bz (anyB (lostB S) (k + 1)))), some (.int (bz (anyB (openB S) (k + 1)))), some (.int (nI (k + 1)))] [] h → _) (ih (k + 1) (by omega))
                  clear ih
                  rw [hc] at *
                  (first | rw [show bz (anyB (wideB S) (k + 1)) = 1 from orA1 hb28] | rw [show bz (anyB (wideB S) (k + 1)) = 1 from orA2 (decide_eq_true hb38)] | rw [show bz (anyB (wideB S) (k + 1)) = 0 from orA0 hb28 (fun q => of_decide_eq_true q hb38)])
                  (first | rw [show bz (anyB (lostB S) (k + 1)) = 1 from orA1 hb48] | rw [show bz (anyB (lostB S) (k + 1)) = 1 from orA2 (decide_eq_true hb57)] | rw [show bz (anyB (lostB S) (k + 1)) = 0 from orA0 hb48 (fun q => hb57 (of_decide_eq_true q))])
                  (first | rw [show bz (anyB (openB S) (k + 1)) = 1 from orA1 hb67] | rw [show bz (anyB (openB S) (k + 1)) = 1 from orA2 (decide_eq_true ⟨hb76, hb85⟩)] | rw [show bz (anyB (openB S) (k + 1)) = 0 from orA0 hb67 (fun q => (of_decide_eq_true q).1 hb76)] | rw [show bz (anyB (openB S) (k + 1)) = 0 from orA0 hb67 (fun q => (of_decide_eq_true q).2 hb85)])
                  exact fun e9 => e9
                · first | refine jm_aload_n d_M_state_79 rfl ?_ | refine jm_aload_nN d_M_state_79 rfl ?_
                  refine jm_iload d_M_state_80 rfl ?_
                  refine mr_callp (As := [_]) d_M_state_82 l_M_232 iw_M_isLost ew_M_isLost nv_M_isLost rfl (Nat.le_of_ble_eq_true rfl) (by omega : 0 + 1 ≤ _) (k_M_isLost hs hkn h8 hp) hm ?_
                  first | refine jm_bz_ne 92 d_M_state_85 (by decide) (fun hb85 => ?_) (fun hb85 => ?_) | refine jm_if_ne 92 d_M_state_85 (by decide) (fun hb85 => ?_) (fun hb85 => ?_)
                  · refine jm_iconstL (v := 0) d_M_state_92 (by decide) ?_
                    refine jm_istore_n d_M_state_93 (Nat.le_of_ble_eq_true rfl) ?_
                    refine jm_iincL (v := nI (k + 1)) d_M_state_94 rfl (by rw [nI_succ]; rfl) ?_
                    refine jm_goto 18 d_M_state_97 (by decide) ?_
                    refine (?_ : jm_W _ _ _ _ _ _ 18 [some (.ref m), some (.int (bz (anyB (wideB S) (k + 1)))), some (.int (bz (anyB (lostB S) (k + 1)))), some (.int (bz (anyB (openB S) (k + 1)))), some (.int (nI (k + 1)))] [] h → _) (ih (k + 1) (by omega))
                    clear ih
                    rw [hc] at *
                    (first | rw [show bz (anyB (wideB S) (k + 1)) = 1 from orA1 hb28] | rw [show bz (anyB (wideB S) (k + 1)) = 1 from orA2 (decide_eq_true hb38)] | rw [show bz (anyB (wideB S) (k + 1)) = 0 from orA0 hb28 (fun q => of_decide_eq_true q hb38)])
                    (first | rw [show bz (anyB (lostB S) (k + 1)) = 1 from orA1 hb48] | rw [show bz (anyB (lostB S) (k + 1)) = 1 from orA2 (decide_eq_true hb57)] | rw [show bz (anyB (lostB S) (k + 1)) = 0 from orA0 hb48 (fun q => hb57 (of_decide_eq_true q))])
                    (first | rw [show bz (anyB (openB S) (k + 1)) = 1 from orA1 hb67] | rw [show bz (anyB (openB S) (k + 1)) = 1 from orA2 (decide_eq_true ⟨hb76, hb85⟩)] | rw [show bz (anyB (openB S) (k + 1)) = 0 from orA0 hb67 (fun q => (of_decide_eq_true q).1 hb76)] | rw [show bz (anyB (openB S) (k + 1)) = 0 from orA0 hb67 (fun q => (of_decide_eq_true q).2 hb85)])
                    exact fun e9 => e9
                  · refine jm_iconstL (v := 1) d_M_state_88 (by decide) ?_
                    refine jm_goto 93 d_M_state_89 (by decide) ?_
                    refine jm_istore_n d_M_state_93 (Nat.le_of_ble_eq_true rfl) ?_
                    refine jm_iincL (v := nI (k + 1)) d_M_state_94 rfl (by rw [nI_succ]; rfl) ?_
                    refine jm_goto 18 d_M_state_97 (by decide) ?_
                    refine (?_ : jm_W _ _ _ _ _ _ 18 [some (.ref m), some (.int (bz (anyB (wideB S) (k + 1)))), some (.int (bz (anyB (lostB S) (k + 1)))), some (.int (bz (anyB (openB S) (k + 1)))), some (.int (nI (k + 1)))] [] h → _) (ih (k + 1) (by omega))
                    clear ih
                    rw [hc] at *
                    (first | rw [show bz (anyB (wideB S) (k + 1)) = 1 from orA1 hb28] | rw [show bz (anyB (wideB S) (k + 1)) = 1 from orA2 (decide_eq_true hb38)] | rw [show bz (anyB (wideB S) (k + 1)) = 0 from orA0 hb28 (fun q => of_decide_eq_true q hb38)])
                    (first | rw [show bz (anyB (lostB S) (k + 1)) = 1 from orA1 hb48] | rw [show bz (anyB (lostB S) (k + 1)) = 1 from orA2 (decide_eq_true hb57)] | rw [show bz (anyB (lostB S) (k + 1)) = 0 from orA0 hb48 (fun q => hb57 (of_decide_eq_true q))])
                    (first | rw [show bz (anyB (openB S) (k + 1)) = 1 from orA1 hb67] | rw [show bz (anyB (openB S) (k + 1)) = 1 from orA2 (decide_eq_true ⟨hb76, hb85⟩)] | rw [show bz (anyB (openB S) (k + 1)) = 0 from orA0 hb67 (fun q => (of_decide_eq_true q).1 hb76)] | rw [show bz (anyB (openB S) (k + 1)) = 0 from orA0 hb67 (fun q => (of_decide_eq_true q).2 hb85)])
                    exact fun e9 => e9
            · refine jm_iconstL (v := 1) d_M_state_60 (by decide) ?_
              refine jm_goto 65 d_M_state_61 (by decide) ?_
              refine jm_istore_n d_M_state_65 (Nat.le_of_ble_eq_true rfl) ?_
              refine jm_iload_n d_M_state_66 rfl ?_
              first | refine jm_bz_ne 88 d_M_state_67 (by decide) (fun hb67 => ?_) (fun hb67 => ?_) | refine jm_if_ne 88 d_M_state_67 (by decide) (fun hb67 => ?_) (fun hb67 => ?_)
              · refine jm_iconstL (v := 1) d_M_state_88 (by decide) ?_
                refine jm_goto 93 d_M_state_89 (by decide) ?_
                refine jm_istore_n d_M_state_93 (Nat.le_of_ble_eq_true rfl) ?_
                refine jm_iincL (v := nI (k + 1)) d_M_state_94 rfl (by rw [nI_succ]; rfl) ?_
                refine jm_goto 18 d_M_state_97 (by decide) ?_
                refine (?_ : jm_W _ _ _ _ _ _ 18 [some (.ref m), some (.int (bz (anyB (wideB S) (k + 1)))), some (.int (bz (anyB (lostB S) (k + 1)))), some (.int (bz (anyB (openB S) (k + 1)))), some (.int (nI (k + 1)))] [] h → _) (ih (k + 1) (by omega))
                clear ih
                rw [hc] at *
                (first | rw [show bz (anyB (wideB S) (k + 1)) = 1 from orA1 hb28] | rw [show bz (anyB (wideB S) (k + 1)) = 1 from orA2 (decide_eq_true hb38)] | rw [show bz (anyB (wideB S) (k + 1)) = 0 from orA0 hb28 (fun q => of_decide_eq_true q hb38)])
                (first | rw [show bz (anyB (lostB S) (k + 1)) = 1 from orA1 hb48] | rw [show bz (anyB (lostB S) (k + 1)) = 1 from orA2 (decide_eq_true hb57)] | rw [show bz (anyB (lostB S) (k + 1)) = 0 from orA0 hb48 (fun q => hb57 (of_decide_eq_true q))])
                (first | rw [show bz (anyB (openB S) (k + 1)) = 1 from orA1 hb67] | rw [show bz (anyB (openB S) (k + 1)) = 1 from orA2 (decide_eq_true ⟨hb76, hb85⟩)] | rw [show bz (anyB (openB S) (k + 1)) = 0 from orA0 hb67 (fun q => (of_decide_eq_true q).1 hb76)] | rw [show bz (anyB (openB S) (k + 1)) = 0 from orA0 hb67 (fun q => (of_decide_eq_true q).2 hb85)])
                exact fun e9 => e9
              · first | refine jm_aload_n d_M_state_70 rfl ?_ | refine jm_aload_nN d_M_state_70 rfl ?_
                refine jm_iload d_M_state_71 rfl ?_
                refine mr_callp (As := [_]) d_M_state_73 l_M_235 iw_M_isSettled ew_M_isSettled nv_M_isSettled rfl (Nat.le_of_ble_eq_true rfl) (by omega : 0 + 1 ≤ _) (k_M_isSettled hkn h8 hp) hm ?_
                first | refine jm_bz_ne 92 d_M_state_76 (by decide) (fun hb76 => ?_) (fun hb76 => ?_) | refine jm_if_ne 92 d_M_state_76 (by decide) (fun hb76 => ?_) (fun hb76 => ?_)
                · refine jm_iconstL (v := 0) d_M_state_92 (by decide) ?_
                  refine jm_istore_n d_M_state_93 (Nat.le_of_ble_eq_true rfl) ?_
                  refine jm_iincL (v := nI (k + 1)) d_M_state_94 rfl (by rw [nI_succ]; rfl) ?_
                  refine jm_goto 18 d_M_state_97 (by decide) ?_
                  refine (?_ : jm_W _ _ _ _ _ _ 18 [some (.ref m), some (.int (bz (anyB (wideB S) (k + 1)))), some (.int (bz (anyB (lostB S) (k + 1)))), some (.int (bz (anyB (openB S) (k + 1)))), some (.int (nI (k + 1)))] [] h → _) (ih (k + 1) (by omega))
                  clear ih
                  rw [hc] at *
                  (first | rw [show bz (anyB (wideB S) (k + 1)) = 1 from orA1 hb28] | rw [show bz (anyB (wideB S) (k + 1)) = 1 from orA2 (decide_eq_true hb38)] | rw [show bz (anyB (wideB S) (k + 1)) = 0 from orA0 hb28 (fun q => of_decide_eq_true q hb38)])
                  (first | rw [show bz (anyB (lostB S) (k + 1)) = 1 from orA1 hb48] | rw [show bz (anyB (lostB S) (k + 1)) = 1 from orA2 (decide_eq_true hb57)] | rw [show bz (anyB (lostB S) (k + 1)) = 0 from orA0 hb48 (fun q => hb57 (of_decide_eq_true q))])
                  (first | rw [show bz (anyB (openB S) (k + 1)) = 1 from orA1 hb67] | rw [show bz (anyB (openB S) (k + 1)) = 1 from orA2 (decide_eq_true ⟨hb76, hb85⟩)] | rw [show bz (anyB (openB S) (k + 1)) = 0 from orA0 hb67 (fun q => (of_decide_eq_true q).1 hb76)] | rw [show bz (anyB (openB S) (k + 1)) = 0 from orA0 hb67 (fun q => (of_decide_eq_true q).2 hb85)])
                  exact fun e9 => e9
                · first | refine jm_aload_n d_M_state_79 rfl ?_ | refine jm_aload_nN d_M_state_79 rfl ?_
                  refine jm_iload d_M_state_80 rfl ?_
                  refine mr_callp (As := [_]) d_M_state_82 l_M_232 iw_M_isLost ew_M_isLost nv_M_isLost rfl (Nat.le_of_ble_eq_true rfl) (by omega : 0 + 1 ≤ _) (k_M_isLost hs hkn h8 hp) hm ?_
                  first | refine jm_bz_ne 92 d_M_state_85 (by decide) (fun hb85 => ?_) (fun hb85 => ?_) | refine jm_if_ne 92 d_M_state_85 (by decide) (fun hb85 => ?_) (fun hb85 => ?_)
                  · refine jm_iconstL (v := 0) d_M_state_92 (by decide) ?_
                    refine jm_istore_n d_M_state_93 (Nat.le_of_ble_eq_true rfl) ?_
                    refine jm_iincL (v := nI (k + 1)) d_M_state_94 rfl (by rw [nI_succ]; rfl) ?_
                    refine jm_goto 18 d_M_state_97 (by decide) ?_
                    refine (?_ : jm_W _ _ _ _ _ _ 18 [some (.ref m), some (.int (bz (anyB (wideB S) (k + 1)))), some (.int (bz (anyB (lostB S) (k + 1)))), some (.int (bz (anyB (openB S) (k + 1)))), some (.int (nI (k + 1)))] [] h → _) (ih (k + 1) (by omega))
                    clear ih
                    rw [hc] at *
                    (first | rw [show bz (anyB (wideB S) (k + 1)) = 1 from orA1 hb28] | rw [show bz (anyB (wideB S) (k + 1)) = 1 from orA2 (decide_eq_true hb38)] | rw [show bz (anyB (wideB S) (k + 1)) = 0 from orA0 hb28 (fun q => of_decide_eq_true q hb38)])
                    (first | rw [show bz (anyB (lostB S) (k + 1)) = 1 from orA1 hb48] | rw [show bz (anyB (lostB S) (k + 1)) = 1 from orA2 (decide_eq_true hb57)] | rw [show bz (anyB (lostB S) (k + 1)) = 0 from orA0 hb48 (fun q => hb57 (of_decide_eq_true q))])
                    (first | rw [show bz (anyB (openB S) (k + 1)) = 1 from orA1 hb67] | rw [show bz (anyB (openB S) (k + 1)) = 1 from orA2 (decide_eq_true ⟨hb76, hb85⟩)] | rw [show bz (anyB (openB S) (k + 1)) = 0 from orA0 hb67 (fun q => (of_decide_eq_true q).1 hb76)] | rw [show bz (anyB (openB S) (k + 1)) = 0 from orA0 hb67 (fun q => (of_decide_eq_true q).2 hb85)])
                    exact fun e9 => e9
                  · refine jm_iconstL (v := 1) d_M_state_88 (by decide) ?_
                    refine jm_goto 93 d_M_state_89 (by decide) ?_
                    refine jm_istore_n d_M_state_93 (Nat.le_of_ble_eq_true rfl) ?_
                    refine jm_iincL (v := nI (k + 1)) d_M_state_94 rfl (by rw [nI_succ]; rfl) ?_
                    refine jm_goto 18 d_M_state_97 (by decide) ?_
                    refine (?_ : jm_W _ _ _ _ _ _ 18 [some (.ref m), some (.int (bz (anyB (wideB S) (k + 1)))), some (.int (bz (anyB (lostB S) (k + 1)))), some (.int (bz (anyB (openB S) (k + 1)))), some (.int (nI (k + 1)))] [] h → _) (ih (k + 1) (by omega))
                    clear ih
                    rw [hc] at *
                    (first | rw [show bz (anyB (wideB S) (k + 1)) = 1 from orA1 hb28] | rw [show bz (anyB (wideB S) (k + 1)) = 1 from orA2 (decide_eq_true hb38)] | rw [show bz (anyB (wideB S) (k + 1)) = 0 from orA0 hb28 (fun q => of_decide_eq_true q hb38)])
                    (first | rw [show bz (anyB (lostB S) (k + 1)) = 1 from orA1 hb48] | rw [show bz (anyB (lostB S) (k + 1)) = 1 from orA2 (decide_eq_true hb57)] | rw [show bz (anyB (lostB S) (k + 1)) = 0 from orA0 hb48 (fun q => hb57 (of_decide_eq_true q))])
                    (first | rw [show bz (anyB (openB S) (k + 1)) = 1 from orA1 hb67] | rw [show bz (anyB (openB S) (k + 1)) = 1 from orA2 (decide_eq_true ⟨hb76, hb85⟩)] | rw [show bz (anyB (openB S) (k + 1)) = 0 from orA0 hb67 (fun q => (of_decide_eq_true q).1 hb76)] | rw [show bz (anyB (openB S) (k + 1)) = 0 from orA0 hb67 (fun q => (of_decide_eq_true q).2 hb85)])
                    exact fun e9 => e9
        · refine jm_iconstL (v := 1) d_M_state_41 (by decide) ?_
          refine jm_goto 46 d_M_state_42 (by decide) ?_
          refine jm_istore_n d_M_state_46 (Nat.le_of_ble_eq_true rfl) ?_
          refine jm_iload_n d_M_state_47 rfl ?_
          first | refine jm_bz_ne 60 d_M_state_48 (by decide) (fun hb48 => ?_) (fun hb48 => ?_) | refine jm_if_ne 60 d_M_state_48 (by decide) (fun hb48 => ?_) (fun hb48 => ?_)
          · refine jm_iconstL (v := 1) d_M_state_60 (by decide) ?_
            refine jm_goto 65 d_M_state_61 (by decide) ?_
            refine jm_istore_n d_M_state_65 (Nat.le_of_ble_eq_true rfl) ?_
            refine jm_iload_n d_M_state_66 rfl ?_
            first | refine jm_bz_ne 88 d_M_state_67 (by decide) (fun hb67 => ?_) (fun hb67 => ?_) | refine jm_if_ne 88 d_M_state_67 (by decide) (fun hb67 => ?_) (fun hb67 => ?_)
            · refine jm_iconstL (v := 1) d_M_state_88 (by decide) ?_
              refine jm_goto 93 d_M_state_89 (by decide) ?_
              refine jm_istore_n d_M_state_93 (Nat.le_of_ble_eq_true rfl) ?_
              refine jm_iincL (v := nI (k + 1)) d_M_state_94 rfl (by rw [nI_succ]; rfl) ?_
              refine jm_goto 18 d_M_state_97 (by decide) ?_
              refine (?_ : jm_W _ _ _ _ _ _ 18 [some (.ref m), some (.int (bz (anyB (wideB S) (k + 1)))), some (.int (bz (anyB (lostB S) (k + 1)))), some (.int (bz (anyB (openB S) (k + 1)))), some (.int (nI (k + 1)))] [] h → _) (ih (k + 1) (by omega))
              clear ih
              rw [hc] at *
              (first | rw [show bz (anyB (wideB S) (k + 1)) = 1 from orA1 hb28] | rw [show bz (anyB (wideB S) (k + 1)) = 1 from orA2 (decide_eq_true hb38)] | rw [show bz (anyB (wideB S) (k + 1)) = 0 from orA0 hb28 (fun q => of_decide_eq_true q hb38)])
              (first | rw [show bz (anyB (lostB S) (k + 1)) = 1 from orA1 hb48] | rw [show bz (anyB (lostB S) (k + 1)) = 1 from orA2 (decide_eq_true hb57)] | rw [show bz (anyB (lostB S) (k + 1)) = 0 from orA0 hb48 (fun q => hb57 (of_decide_eq_true q))])
              (first | rw [show bz (anyB (openB S) (k + 1)) = 1 from orA1 hb67] | rw [show bz (anyB (openB S) (k + 1)) = 1 from orA2 (decide_eq_true ⟨hb76, hb85⟩)] | rw [show bz (anyB (openB S) (k + 1)) = 0 from orA0 hb67 (fun q => (of_decide_eq_true q).1 hb76)] | rw [show bz (anyB (openB S) (k + 1)) = 0 from orA0 hb67 (fun q => (of_decide_eq_true q).2 hb85)])
              exact fun e9 => e9
            · first | refine jm_aload_n d_M_state_70 rfl ?_ | refine jm_aload_nN d_M_state_70 rfl ?_
              refine jm_iload d_M_state_71 rfl ?_
              refine mr_callp (As := [_]) d_M_state_73 l_M_235 iw_M_isSettled ew_M_isSettled nv_M_isSettled rfl (Nat.le_of_ble_eq_true rfl) (by omega : 0 + 1 ≤ _) (k_M_isSettled hkn h8 hp) hm ?_
              first | refine jm_bz_ne 92 d_M_state_76 (by decide) (fun hb76 => ?_) (fun hb76 => ?_) | refine jm_if_ne 92 d_M_state_76 (by decide) (fun hb76 => ?_) (fun hb76 => ?_)
              · refine jm_iconstL (v := 0) d_M_state_92 (by decide) ?_
                refine jm_istore_n d_M_state_93 (Nat.le_of_ble_eq_true rfl) ?_
                refine jm_iincL (v := nI (k + 1)) d_M_state_94 rfl (by rw [nI_succ]; rfl) ?_
                refine jm_goto 18 d_M_state_97 (by decide) ?_
                refine (?_ : jm_W _ _ _ _ _ _ 18 [some (.ref m), some (.int (bz (anyB (wideB S) (k + 1)))), some (.int (bz (anyB (lostB S) (k + 1)))), some (.int (bz (anyB (openB S) (k + 1)))), some (.int (nI (k + 1)))] [] h → _) (ih (k + 1) (by omega))
                clear ih
                rw [hc] at *
                (first | rw [show bz (anyB (wideB S) (k + 1)) = 1 from orA1 hb28] | rw [show bz (anyB (wideB S) (k + 1)) = 1 from orA2 (decide_eq_true hb38)] | rw [show bz (anyB (wideB S) (k + 1)) = 0 from orA0 hb28 (fun q => of_decide_eq_true q hb38)])
                (first | rw [show bz (anyB (lostB S) (k + 1)) = 1 from orA1 hb48] | rw [show bz (anyB (lostB S) (k + 1)) = 1 from orA2 (decide_eq_true hb57)] | rw [show bz (anyB (lostB S) (k + 1)) = 0 from orA0 hb48 (fun q => hb57 (of_decide_eq_true q))])
                (first | rw [show bz (anyB (openB S) (k + 1)) = 1 from orA1 hb67] | rw [show bz (anyB (openB S) (k + 1)) = 1 from orA2 (decide_eq_true ⟨hb76, hb85⟩)] | rw [show bz (anyB (openB S) (k + 1)) = 0 from orA0 hb67 (fun q => (of_decide_eq_true q).1 hb76)] | rw [show bz (anyB (openB S) (k + 1)) = 0 from orA0 hb67 (fun q => (of_decide_eq_true q).2 hb85)])
                exact fun e9 => e9
              · first | refine jm_aload_n d_M_state_79 rfl ?_ | refine jm_aload_nN d_M_state_79 rfl ?_
                refine jm_iload d_M_state_80 rfl ?_
                refine mr_callp (As := [_]) d_M_state_82 l_M_232 iw_M_isLost ew_M_isLost nv_M_isLost rfl (Nat.le_of_ble_eq_true rfl) (by omega : 0 + 1 ≤ _) (k_M_isLost hs hkn h8 hp) hm ?_
                first | refine jm_bz_ne 92 d_M_state_85 (by decide) (fun hb85 => ?_) (fun hb85 => ?_) | refine jm_if_ne 92 d_M_state_85 (by decide) (fun hb85 => ?_) (fun hb85 => ?_)
                · refine jm_iconstL (v := 0) d_M_state_92 (by decide) ?_
                  refine jm_istore_n d_M_state_93 (Nat.le_of_ble_eq_true rfl) ?_
                  refine jm_iincL (v := nI (k + 1)) d_M_state_94 rfl (by rw [nI_succ]; rfl) ?_
                  refine jm_goto 18 d_M_state_97 (by decide) ?_
                  refine (?_ : jm_W _ _ _ _ _ _ 18 [some (.ref m), some (.int (bz (anyB (wideB S) (k + 1)))), some (.int (bz (anyB (lostB S) (k + 1)))), some (.int (bz (anyB (openB S) (k + 1)))), some (.int (nI (k + 1)))] [] h → _) (ih (k + 1) (by omega))
                  clear ih
                  rw [hc] at *
                  (first | rw [show bz (anyB (wideB S) (k + 1)) = 1 from orA1 hb28] | rw [show bz (anyB (wideB S) (k + 1)) = 1 from orA2 (decide_eq_true hb38)] | rw [show bz (anyB (wideB S) (k + 1)) = 0 from orA0 hb28 (fun q => of_decide_eq_true q hb38)])
                  (first | rw [show bz (anyB (lostB S) (k + 1)) = 1 from orA1 hb48] | rw [show bz (anyB (lostB S) (k + 1)) = 1 from orA2 (decide_eq_true hb57)] | rw [show bz (anyB (lostB S) (k + 1)) = 0 from orA0 hb48 (fun q => hb57 (of_decide_eq_true q))])
                  (first | rw [show bz (anyB (openB S) (k + 1)) = 1 from orA1 hb67] | rw [show bz (anyB (openB S) (k + 1)) = 1 from orA2 (decide_eq_true ⟨hb76, hb85⟩)] | rw [show bz (anyB (openB S) (k + 1)) = 0 from orA0 hb67 (fun q => (of_decide_eq_true q).1 hb76)] | rw [show bz (anyB (openB S) (k + 1)) = 0 from orA0 hb67 (fun q => (of_decide_eq_true q).2 hb85)])
                  exact fun e9 => e9
                · refine jm_iconstL (v := 1) d_M_state_88 (by decide) ?_
                  refine jm_goto 93 d_M_state_89 (by decide) ?_
                  refine jm_istore_n d_M_state_93 (Nat.le_of_ble_eq_true rfl) ?_
                  refine jm_iincL (v := nI (k + 1)) d_M_state_94 rfl (by rw [nI_succ]; rfl) ?_
                  refine jm_goto 18 d_M_state_97 (by decide) ?_
                  refine (?_ : jm_W _ _ _ _ _ _ 18 [some (.ref m), some (.int (bz (anyB (wideB S) (k + 1)))), some (.int (bz (anyB (lostB S) (k + 1)))), some (.int (bz (anyB (openB S) (k + 1)))), some (.int (nI (k + 1)))] [] h → _) (ih (k + 1) (by omega))
                  clear ih
                  rw [hc] at *
                  (first | rw [show bz (anyB (wideB S) (k + 1)) = 1 from orA1 hb28] | rw [show bz (anyB (wideB S) (k + 1)) = 1 from orA2 (decide_eq_true hb38)] | rw [show bz (anyB (wideB S) (k + 1)) = 0 from orA0 hb28 (fun q => of_decide_eq_true q hb38)])
                  (first | rw [show bz (anyB (lostB S) (k + 1)) = 1 from orA1 hb48] | rw [show bz (anyB (lostB S) (k + 1)) = 1 from orA2 (decide_eq_true hb57)] | rw [show bz (anyB (lostB S) (k + 1)) = 0 from orA0 hb48 (fun q => hb57 (of_decide_eq_true q))])
                  (first | rw [show bz (anyB (openB S) (k + 1)) = 1 from orA1 hb67] | rw [show bz (anyB (openB S) (k + 1)) = 1 from orA2 (decide_eq_true ⟨hb76, hb85⟩)] | rw [show bz (anyB (openB S) (k + 1)) = 0 from orA0 hb67 (fun q => (of_decide_eq_true q).1 hb76)] | rw [show bz (anyB (openB S) (k + 1)) = 0 from orA0 hb67 (fun q => (of_decide_eq_true q).2 hb85)])
                  exact fun e9 => e9
          · first | refine jm_aload_n d_M_state_51 rfl ?_ | refine jm_aload_nN d_M_state_51 rfl ?_
            refine jm_iload d_M_state_52 rfl ?_
            refine mr_callp (As := [_]) d_M_state_54 l_M_232 iw_M_isLost ew_M_isLost nv_M_isLost rfl (Nat.le_of_ble_eq_true rfl) (by omega : 0 + 1 ≤ _) (k_M_isLost hs hkn h8 hp) hm ?_
            first | refine jm_bz_eq 64 d_M_state_57 (by decide) (fun hb57 => ?_) (fun hb57 => ?_) | refine jm_if_eq 64 d_M_state_57 (by decide) (fun hb57 => ?_) (fun hb57 => ?_)
            · refine jm_iconstL (v := 0) d_M_state_64 (by decide) ?_
              refine jm_istore_n d_M_state_65 (Nat.le_of_ble_eq_true rfl) ?_
              refine jm_iload_n d_M_state_66 rfl ?_
              first | refine jm_bz_ne 88 d_M_state_67 (by decide) (fun hb67 => ?_) (fun hb67 => ?_) | refine jm_if_ne 88 d_M_state_67 (by decide) (fun hb67 => ?_) (fun hb67 => ?_)
              · refine jm_iconstL (v := 1) d_M_state_88 (by decide) ?_
                refine jm_goto 93 d_M_state_89 (by decide) ?_
                refine jm_istore_n d_M_state_93 (Nat.le_of_ble_eq_true rfl) ?_
                refine jm_iincL (v := nI (k + 1)) d_M_state_94 rfl (by rw [nI_succ]; rfl) ?_
                refine jm_goto 18 d_M_state_97 (by decide) ?_
                refine (?_ : jm_W _ _ _ _ _ _ 18 [some (.ref m), some (.int (bz (anyB (wideB S) (k + 1)))), some (.int (bz (anyB (lostB S) (k + 1)))), some (.int (bz (anyB (openB S) (k + 1)))), some (.int (nI (k + 1)))] [] h → _) (ih (k + 1) (by omega))
                clear ih
                rw [hc] at *
                (first | rw [show bz (anyB (wideB S) (k + 1)) = 1 from orA1 hb28] | rw [show bz (anyB (wideB S) (k + 1)) = 1 from orA2 (decide_eq_true hb38)] | rw [show bz (anyB (wideB S) (k + 1)) = 0 from orA0 hb28 (fun q => of_decide_eq_true q hb38)])
                (first | rw [show bz (anyB (lostB S) (k + 1)) = 1 from orA1 hb48] | rw [show bz (anyB (lostB S) (k + 1)) = 1 from orA2 (decide_eq_true hb57)] | rw [show bz (anyB (lostB S) (k + 1)) = 0 from orA0 hb48 (fun q => hb57 (of_decide_eq_true q))])
                (first | rw [show bz (anyB (openB S) (k + 1)) = 1 from orA1 hb67] | rw [show bz (anyB (openB S) (k + 1)) = 1 from orA2 (decide_eq_true ⟨hb76, hb85⟩)] | rw [show bz (anyB (openB S) (k + 1)) = 0 from orA0 hb67 (fun q => (of_decide_eq_true q).1 hb76)] | rw [show bz (anyB (openB S) (k + 1)) = 0 from orA0 hb67 (fun q => (of_decide_eq_true q).2 hb85)])
                exact fun e9 => e9
              · first | refine jm_aload_n d_M_state_70 rfl ?_ | refine jm_aload_nN d_M_state_70 rfl ?_
                refine jm_iload d_M_state_71 rfl ?_
                refine mr_callp (As := [_]) d_M_state_73 l_M_235 iw_M_isSettled ew_M_isSettled nv_M_isSettled rfl (Nat.le_of_ble_eq_true rfl) (by omega : 0 + 1 ≤ _) (k_M_isSettled hkn h8 hp) hm ?_
                first | refine jm_bz_ne 92 d_M_state_76 (by decide) (fun hb76 => ?_) (fun hb76 => ?_) | refine jm_if_ne 92 d_M_state_76 (by decide) (fun hb76 => ?_) (fun hb76 => ?_)
                · refine jm_iconstL (v := 0) d_M_state_92 (by decide) ?_
                  refine jm_istore_n d_M_state_93 (Nat.le_of_ble_eq_true rfl) ?_
                  refine jm_iincL (v := nI (k + 1)) d_M_state_94 rfl (by rw [nI_succ]; rfl) ?_
                  refine jm_goto 18 d_M_state_97 (by decide) ?_
                  refine (?_ : jm_W _ _ _ _ _ _ 18 [some (.ref m), some (.int (bz (anyB (wideB S) (k + 1)))), some (.int (bz (anyB (lostB S) (k + 1)))), some (.int (bz (anyB (openB S) (k + 1)))), some (.int (nI (k + 1)))] [] h → _) (ih (k + 1) (by omega))
                  clear ih
                  rw [hc] at *
                  (first | rw [show bz (anyB (wideB S) (k + 1)) = 1 from orA1 hb28] | rw [show bz (anyB (wideB S) (k + 1)) = 1 from orA2 (decide_eq_true hb38)] | rw [show bz (anyB (wideB S) (k + 1)) = 0 from orA0 hb28 (fun q => of_decide_eq_true q hb38)])
                  (first | rw [show bz (anyB (lostB S) (k + 1)) = 1 from orA1 hb48] | rw [show bz (anyB (lostB S) (k + 1)) = 1 from orA2 (decide_eq_true hb57)] | rw [show bz (anyB (lostB S) (k + 1)) = 0 from orA0 hb48 (fun q => hb57 (of_decide_eq_true q))])
                  (first | rw [show bz (anyB (openB S) (k + 1)) = 1 from orA1 hb67] | rw [show bz (anyB (openB S) (k + 1)) = 1 from orA2 (decide_eq_true ⟨hb76, hb85⟩)] | rw [show bz (anyB (openB S) (k + 1)) = 0 from orA0 hb67 (fun q => (of_decide_eq_true q).1 hb76)] | rw [show bz (anyB (openB S) (k + 1)) = 0 from orA0 hb67 (fun q => (of_decide_eq_true q).2 hb85)])
                  exact fun e9 => e9
                · first | refine jm_aload_n d_M_state_79 rfl ?_ | refine jm_aload_nN d_M_state_79 rfl ?_
                  refine jm_iload d_M_state_80 rfl ?_
                  refine mr_callp (As := [_]) d_M_state_82 l_M_232 iw_M_isLost ew_M_isLost nv_M_isLost rfl (Nat.le_of_ble_eq_true rfl) (by omega : 0 + 1 ≤ _) (k_M_isLost hs hkn h8 hp) hm ?_
                  first | refine jm_bz_ne 92 d_M_state_85 (by decide) (fun hb85 => ?_) (fun hb85 => ?_) | refine jm_if_ne 92 d_M_state_85 (by decide) (fun hb85 => ?_) (fun hb85 => ?_)
                  · refine jm_iconstL (v := 0) d_M_state_92 (by decide) ?_
                    refine jm_istore_n d_M_state_93 (Nat.le_of_ble_eq_true rfl) ?_
                    refine jm_iincL (v := nI (k + 1)) d_M_state_94 rfl (by rw [nI_succ]; rfl) ?_
                    refine jm_goto 18 d_M_state_97 (by decide) ?_
                    refine (?_ : jm_W _ _ _ _ _ _ 18 [some (.ref m), some (.int (bz (anyB (wideB S) (k + 1)))), some (.int (bz (anyB (lostB S) (k + 1)))), some (.int (bz (anyB (openB S) (k + 1)))), some (.int (nI (k + 1)))] [] h → _) (ih (k + 1) (by omega))
                    clear ih
                    rw [hc] at *
                    (first | rw [show bz (anyB (wideB S) (k + 1)) = 1 from orA1 hb28] | rw [show bz (anyB (wideB S) (k + 1)) = 1 from orA2 (decide_eq_true hb38)] | rw [show bz (anyB (wideB S) (k + 1)) = 0 from orA0 hb28 (fun q => of_decide_eq_true q hb38)])
                    (first | rw [show bz (anyB (lostB S) (k + 1)) = 1 from orA1 hb48] | rw [show bz (anyB (lostB S) (k + 1)) = 1 from orA2 (decide_eq_true hb57)] | rw [show bz (anyB (lostB S) (k + 1)) = 0 from orA0 hb48 (fun q => hb57 (of_decide_eq_true q))])
                    (first | rw [show bz (anyB (openB S) (k + 1)) = 1 from orA1 hb67] | rw [show bz (anyB (openB S) (k + 1)) = 1 from orA2 (decide_eq_true ⟨hb76, hb85⟩)] | rw [show bz (anyB (openB S) (k + 1)) = 0 from orA0 hb67 (fun q => (of_decide_eq_true q).1 hb76)] | rw [show bz (anyB (openB S) (k + 1)) = 0 from orA0 hb67 (fun q => (of_decide_eq_true q).2 hb85)])
                    exact fun e9 => e9
                  · refine jm_iconstL (v := 1) d_M_state_88 (by decide) ?_
                    refine jm_goto 93 d_M_state_89 (by decide) ?_
                    refine jm_istore_n d_M_state_93 (Nat.le_of_ble_eq_true rfl) ?_
                    refine jm_iincL (v := nI (k + 1)) d_M_state_94 rfl (by rw [nI_succ]; rfl) ?_
                    refine jm_goto 18 d_M_state_97 (by decide) ?_
                    refine (?_ : jm_W _ _ _ _ _ _ 18 [some (.ref m), some (.int (bz (anyB (wideB S) (k + 1)))), some (.int (bz (anyB (lostB S) (k + 1)))), some (.int (bz (anyB (openB S) (k + 1)))), some (.int (nI (k + 1)))] [] h → _) (ih (k + 1) (by omega))
                    clear ih
                    rw [hc] at *
                    (first | rw [show bz (anyB (wideB S) (k + 1)) = 1 from orA1 hb28] | rw [show bz (anyB (wideB S) (k + 1)) = 1 from orA2 (decide_eq_true hb38)] | rw [show bz (anyB (wideB S) (k + 1)) = 0 from orA0 hb28 (fun q => of_decide_eq_true q hb38)])
                    (first | rw [show bz (anyB (lostB S) (k + 1)) = 1 from orA1 hb48] | rw [show bz (anyB (lostB S) (k + 1)) = 1 from orA2 (decide_eq_true hb57)] | rw [show bz (anyB (lostB S) (k + 1)) = 0 from orA0 hb48 (fun q => hb57 (of_decide_eq_true q))])
                    (first | rw [show bz (anyB (openB S) (k + 1)) = 1 from orA1 hb67] | rw [show bz (anyB (openB S) (k + 1)) = 1 from orA2 (decide_eq_true ⟨hb76, hb85⟩)] | rw [show bz (anyB (openB S) (k + 1)) = 0 from orA0 hb67 (fun q => (of_decide_eq_true q).1 hb76)] | rw [show bz (anyB (openB S) (k + 1)) = 0 from orA0 hb67 (fun q => (of_decide_eq_true q).2 hb85)])
                    exact fun e9 => e9
            · refine jm_iconstL (v := 1) d_M_state_60 (by decide) ?_
              refine jm_goto 65 d_M_state_61 (by decide) ?_
              refine jm_istore_n d_M_state_65 (Nat.le_of_ble_eq_true rfl) ?_
              refine jm_iload_n d_M_state_66 rfl ?_
              first | refine jm_bz_ne 88 d_M_state_67 (by decide) (fun hb67 => ?_) (fun hb67 => ?_) | refine jm_if_ne 88 d_M_state_67 (by decide) (fun hb67 => ?_) (fun hb67 => ?_)
              · refine jm_iconstL (v := 1) d_M_state_88 (by decide) ?_
                refine jm_goto 93 d_M_state_89 (by decide) ?_
                refine jm_istore_n d_M_state_93 (Nat.le_of_ble_eq_true rfl) ?_
                refine jm_iincL (v := nI (k + 1)) d_M_state_94 rfl (by rw [nI_succ]; rfl) ?_
                refine jm_goto 18 d_M_state_97 (by decide) ?_
                refine (?_ : jm_W _ _ _ _ _ _ 18 [some (.ref m), some (.int (bz (anyB (wideB S) (k + 1)))), some (.int (bz (anyB (lostB S) (k + 1)))), some (.int (bz (anyB (openB S) (k + 1)))), some (.int (nI (k + 1)))] [] h → _) (ih (k + 1) (by omega))
                clear ih
                rw [hc] at *
                (first | rw [show bz (anyB (wideB S) (k + 1)) = 1 from orA1 hb28] | rw [show bz (anyB (wideB S) (k + 1)) = 1 from orA2 (decide_eq_true hb38)] | rw [show bz (anyB (wideB S) (k + 1)) = 0 from orA0 hb28 (fun q => of_decide_eq_true q hb38)])
                (first | rw [show bz (anyB (lostB S) (k + 1)) = 1 from orA1 hb48] | rw [show bz (anyB (lostB S) (k + 1)) = 1 from orA2 (decide_eq_true hb57)] | rw [show bz (anyB (lostB S) (k + 1)) = 0 from orA0 hb48 (fun q => hb57 (of_decide_eq_true q))])
                (first | rw [show bz (anyB (openB S) (k + 1)) = 1 from orA1 hb67] | rw [show bz (anyB (openB S) (k + 1)) = 1 from orA2 (decide_eq_true ⟨hb76, hb85⟩)] | rw [show bz (anyB (openB S) (k + 1)) = 0 from orA0 hb67 (fun q => (of_decide_eq_true q).1 hb76)] | rw [show bz (anyB (openB S) (k + 1)) = 0 from orA0 hb67 (fun q => (of_decide_eq_true q).2 hb85)])
                exact fun e9 => e9
              · first | refine jm_aload_n d_M_state_70 rfl ?_ | refine jm_aload_nN d_M_state_70 rfl ?_
                refine jm_iload d_M_state_71 rfl ?_
                refine mr_callp (As := [_]) d_M_state_73 l_M_235 iw_M_isSettled ew_M_isSettled nv_M_isSettled rfl (Nat.le_of_ble_eq_true rfl) (by omega : 0 + 1 ≤ _) (k_M_isSettled hkn h8 hp) hm ?_
                first | refine jm_bz_ne 92 d_M_state_76 (by decide) (fun hb76 => ?_) (fun hb76 => ?_) | refine jm_if_ne 92 d_M_state_76 (by decide) (fun hb76 => ?_) (fun hb76 => ?_)
                · refine jm_iconstL (v := 0) d_M_state_92 (by decide) ?_
                  refine jm_istore_n d_M_state_93 (Nat.le_of_ble_eq_true rfl) ?_
                  refine jm_iincL (v := nI (k + 1)) d_M_state_94 rfl (by rw [nI_succ]; rfl) ?_
                  refine jm_goto 18 d_M_state_97 (by decide) ?_
                  refine (?_ : jm_W _ _ _ _ _ _ 18 [some (.ref m), some (.int (bz (anyB (wideB S) (k + 1)))), some (.int (bz (anyB (lostB S) (k + 1)))), some (.int (bz (anyB (openB S) (k + 1)))), some (.int (nI (k + 1)))] [] h → _) (ih (k + 1) (by omega))
                  clear ih
                  rw [hc] at *
                  (first | rw [show bz (anyB (wideB S) (k + 1)) = 1 from orA1 hb28] | rw [show bz (anyB (wideB S) (k + 1)) = 1 from orA2 (decide_eq_true hb38)] | rw [show bz (anyB (wideB S) (k + 1)) = 0 from orA0 hb28 (fun q => of_decide_eq_true q hb38)])
                  (first | rw [show bz (anyB (lostB S) (k + 1)) = 1 from orA1 hb48] | rw [show bz (anyB (lostB S) (k + 1)) = 1 from orA2 (decide_eq_true hb57)] | rw [show bz (anyB (lostB S) (k + 1)) = 0 from orA0 hb48 (fun q => hb57 (of_decide_eq_true q))])
                  (first | rw [show bz (anyB (openB S) (k + 1)) = 1 from orA1 hb67] | rw [show bz (anyB (openB S) (k + 1)) = 1 from orA2 (decide_eq_true ⟨hb76, hb85⟩)] | rw [show bz (anyB (openB S) (k + 1)) = 0 from orA0 hb67 (fun q => (of_decide_eq_true q).1 hb76)] | rw [show bz (anyB (openB S) (k + 1)) = 0 from orA0 hb67 (fun q => (of_decide_eq_true q).2 hb85)])
                  exact fun e9 => e9
                · first | refine jm_aload_n d_M_state_79 rfl ?_ | refine jm_aload_nN d_M_state_79 rfl ?_
                  refine jm_iload d_M_state_80 rfl ?_
                  refine mr_callp (As := [_]) d_M_state_82 l_M_232 iw_M_isLost ew_M_isLost nv_M_isLost rfl (Nat.le_of_ble_eq_true rfl) (by omega : 0 + 1 ≤ _) (k_M_isLost hs hkn h8 hp) hm ?_
                  first | refine jm_bz_ne 92 d_M_state_85 (by decide) (fun hb85 => ?_) (fun hb85 => ?_) | refine jm_if_ne 92 d_M_state_85 (by decide) (fun hb85 => ?_) (fun hb85 => ?_)
                  · refine jm_iconstL (v := 0) d_M_state_92 (by decide) ?_
                    refine jm_istore_n d_M_state_93 (Nat.le_of_ble_eq_true rfl) ?_
                    refine jm_iincL (v := nI (k + 1)) d_M_state_94 rfl (by rw [nI_succ]; rfl) ?_
                    refine jm_goto 18 d_M_state_97 (by decide) ?_
                    refine (?_ : jm_W _ _ _ _ _ _ 18 [some (.ref m), some (.int (bz (anyB (wideB S) (k + 1)))), some (.int (bz (anyB (lostB S) (k + 1)))), some (.int (bz (anyB (openB S) (k + 1)))), some (.int (nI (k + 1)))] [] h → _) (ih (k + 1) (by omega))
                    clear ih
                    rw [hc] at *
                    (first | rw [show bz (anyB (wideB S) (k + 1)) = 1 from orA1 hb28] | rw [show bz (anyB (wideB S) (k + 1)) = 1 from orA2 (decide_eq_true hb38)] | rw [show bz (anyB (wideB S) (k + 1)) = 0 from orA0 hb28 (fun q => of_decide_eq_true q hb38)])
                    (first | rw [show bz (anyB (lostB S) (k + 1)) = 1 from orA1 hb48] | rw [show bz (anyB (lostB S) (k + 1)) = 1 from orA2 (decide_eq_true hb57)] | rw [show bz (anyB (lostB S) (k + 1)) = 0 from orA0 hb48 (fun q => hb57 (of_decide_eq_true q))])
                    (first | rw [show bz (anyB (openB S) (k + 1)) = 1 from orA1 hb67] | rw [show bz (anyB (openB S) (k + 1)) = 1 from orA2 (decide_eq_true ⟨hb76, hb85⟩)] | rw [show bz (anyB (openB S) (k + 1)) = 0 from orA0 hb67 (fun q => (of_decide_eq_true q).1 hb76)] | rw [show bz (anyB (openB S) (k + 1)) = 0 from orA0 hb67 (fun q => (of_decide_eq_true q).2 hb85)])
                    exact fun e9 => e9
                  · refine jm_iconstL (v := 1) d_M_state_88 (by decide) ?_
                    refine jm_goto 93 d_M_state_89 (by decide) ?_
                    refine jm_istore_n d_M_state_93 (Nat.le_of_ble_eq_true rfl) ?_
                    refine jm_iincL (v := nI (k + 1)) d_M_state_94 rfl (by rw [nI_succ]; rfl) ?_
                    refine jm_goto 18 d_M_state_97 (by decide) ?_
                    refine (?_ : jm_W _ _ _ _ _ _ 18 [some (.ref m), some (.int (bz (anyB (wideB S) (k + 1)))), some (.int (bz (anyB (lostB S) (k + 1)))), some (.int (bz (anyB (openB S) (k + 1)))), some (.int (nI (k + 1)))] [] h → _) (ih (k + 1) (by omega))
                    clear ih
                    rw [hc] at *
                    (first | rw [show bz (anyB (wideB S) (k + 1)) = 1 from orA1 hb28] | rw [show bz (anyB (wideB S) (k + 1)) = 1 from orA2 (decide_eq_true hb38)] | rw [show bz (anyB (wideB S) (k + 1)) = 0 from orA0 hb28 (fun q => of_decide_eq_true q hb38)])
                    (first | rw [show bz (anyB (lostB S) (k + 1)) = 1 from orA1 hb48] | rw [show bz (anyB (lostB S) (k + 1)) = 1 from orA2 (decide_eq_true hb57)] | rw [show bz (anyB (lostB S) (k + 1)) = 0 from orA0 hb48 (fun q => hb57 (of_decide_eq_true q))])
                    (first | rw [show bz (anyB (openB S) (k + 1)) = 1 from orA1 hb67] | rw [show bz (anyB (openB S) (k + 1)) = 1 from orA2 (decide_eq_true ⟨hb76, hb85⟩)] | rw [show bz (anyB (openB S) (k + 1)) = 0 from orA0 hb67 (fun q => (of_decide_eq_true q).1 hb76)] | rw [show bz (anyB (openB S) (k + 1)) = 0 from orA0 hb67 (fun q => (of_decide_eq_true q).2 hb85)])
                    exact fun e9 => e9
theorem k_M_state {n : Nat} (hd : 1 ≤ d) (hn : S 1 0 = nI n) (h8 : n ≤ 8) (hp : ptOK S n) : mA Γ m_M_state d m ar [] S (some (.int (stF S n))) := by
  intro h hm
  refine jm_entry (by decide +kernel) (List.forall_mem_cons.mpr ⟨rfl, fun _ h => nomatch h⟩) (Nat.le_of_ble_eq_true rfl) ?_
  show jm_W _ _ _ _ _ _ 0 [some (.ref m), none, none, none, none] [] _
  first | refine jm_aload_n d_M_state_0 rfl ?_ | refine jm_aload_nN d_M_state_0 rfl ?_
  refine mr_geti d_M_state_1 f_M_135 hm (by decide) rfl ?_
  first | refine jm_bz_ne 9 d_M_state_4 (by decide) (fun hb4 => ?_) (fun hb4 => ?_) | refine jm_if_ne 9 d_M_state_4 (by decide) (fun hb4 => ?_) (fun hb4 => ?_)
  · refine jm_iconstL (v := 0) d_M_state_9 (by decide) ?_
    refine jm_istore_n d_M_state_10 (Nat.le_of_ble_eq_true rfl) ?_
    refine jm_iconstL (v := 0) d_M_state_11 (by decide) ?_
    refine jm_istore_n d_M_state_12 (Nat.le_of_ble_eq_true rfl) ?_
    refine jm_iconstL (v := 0) d_M_state_13 (by decide) ?_
    refine jm_istore_n d_M_state_14 (Nat.le_of_ble_eq_true rfl) ?_
    refine jm_iconstL (v := 0) d_M_state_15 (by decide) ?_
    refine jm_istore d_M_state_16 (Nat.le_of_ble_eq_true rfl) ?_
    exact lp_M_state hd hn h8 hb4 hp hm n 0 (by omega)
  · refine jm_iconstL (v := 0) d_M_state_7 (by decide) ?_
    exact jm_iret d_M_state_8 rfl ⟨rfl, by rw [stF, if_pos (Decidable.not_not.mp (fun q => hb4 q))]⟩
end
