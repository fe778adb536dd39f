/-! THE REFERENCE: change. Written by wip/whole/gen/p40.py -/
section
variable {Γ : jm_G} {d m : Nat} {ar : Nat → Nat} {S : mS} {h : jm_H}
abbrev thChange (S : mS) (n np : Nat) (a b v w c : Int32) : Int32 := thF (¬ isPC S np a b v w c) (stF S n ≠ 1 ∧ stF S n ≠ 2)
abbrev cg0 (S : mS) (p a v w : Nat) (c : Int32) (q : Nat) : mS := mu (mu (mu (mu S 0 0 0) 8 (plS S p (nI a) v w) (farS c)) 12 q (S 12 q + 1)) 27 0 0
/-- a change that is taken: agents k and l, pair p, values v' and w', part q -/
abbrev cgI (S : mS) (n np : Nat) (a b v w : Int32) (k l p v' w' q : Nat) : Prop := k < n ∧ l < n ∧ a = nI k ∧ b = nI l ∧ pairF S a b np 0 = nI p ∧ p < np ∧ v' < 4 ∧ w' < 4 ∧ v = nI v' ∧ w = nI w' ∧ S 10 k = nI q ∧ q < 8
theorem k_M_change {n np nl : Nat} (hd : 6 ≤ d) (hn : S 1 0 = nI n) (h8 : n ≤ 8) (hz : szOK S n) (hp : S 5 0 = nI np) (h12 : np ≤ 12) (hpt : ptOK S n) (a b v w c : Int32) (hW : thChange S n np a b v w c = 0 → ∀ k l p v' w' q, cgI S n np a b v w k l p v' w' q → wkK (cg0 S p k v' w' c q) n (if cI (S 17 k) b then k else l) np nl) : mM Γ m_M_change d m ar [.int a, .int b, .int v, .int w, .int c] S (fun v9 S' => (thChange S n np a b v w c ≠ 0 ∧ S' = mu S 0 0 (thChange S n np a b v w c) ∧ v9 = some (.int 0)) ∨ (thChange S n np a b v w c = 0 ∧ ∃ k l p v' w' q, cgI S n np a b v w k l p v' w' q ∧ S' = wkC (cg0 S p k v' w' c q) (if cI (S 17 k) b then k else l) (S 12 q + 1) np ∧ v9 = some (.int (S' 34 0)))) := by
  intro h hm
  have hf : mo_fr m ar h h := mo_fr.rf
  have J : ∀ t, t = thChange S n np a b v w c → ∀ h1, mo h1 m ar S → mo_fr m ar h h1 → jm_W Γ m_M_change d 0 0 (fun oc h' => ∃ v9 S', oc = .inl v9 ∧ ((thChange S n np a b v w c ≠ 0 ∧ S' = mu S 0 0 (thChange S n np a b v w c) ∧ v9 = some (.int 0)) ∨ (thChange S n np a b v w c = 0 ∧ ∃ k l p v' w' q, cgI S n np a b v w k l p v' w' q ∧ S' = wkC (cg0 S p k v' w' c q) (if cI (S 17 k) b then k else l) (S 12 q + 1) np ∧ v9 = some (.int (S' 34 0)))) ∧ mo h' m ar S' ∧ mo_fr m ar h h') 42 [some (.ref m), some (.int a), some (.int b), some (.int v), some (.int w), some (.int c), some (.int (stF S n)), none] [.int t, .ref m] h1 := by
    intro t ht h1 hm1 hf1
    have hm := hm1
    have hf := hf1
    clear hm1 hf1
    refine mr_puti d_M_change_42 f_M_116 hm hf (by decide) rfl (fun h hm hf => ?_)
    first | refine jm_aload_n d_M_change_45 rfl ?_ | refine jm_aload_nN d_M_change_45 rfl ?_
    refine mr_geti d_M_change_46 f_M_116 hm (by decide) rfl ?_
    refine jm_if_le 54 d_M_change_49 (by decide) (fun hb49 => ?_) (fun hb49 => ?_)
    · have hz0 : t = 0 := (by have q : t ≤ 0 := hb49; rw [ht] at q ⊢; exact thF_le.mp q)
      subst hz0
      have q0 := thF_0.mp ht.symm
      have hPC := Decidable.not_not.mp q0.1
      obtain ⟨p, v', w', q3, q4, q5, q6, rfl, rfl⟩ := isPC_ix hn h8 h12 hz hPC
      obtain ⟨k, hk, rfl⟩ := ag_ix hn h8 hPC.2.1.1
      obtain ⟨l, hl, rfl⟩ := ag_ix hn h8 hPC.2.2.1.1
      have hs : S 2 0 ≠ 0 := fun z => by
        have e : stF S n = 0 := if_pos z
        rw [e] at q0
        exact q0.2 ⟨by decide, by decide⟩
      obtain ⟨q, r, hq8, hr8, hq, -⟩ := hpt hs k hk
      have hI : cgI S n np (nI k) (nI l) (nI v') (nI w') k l p v' w' q := ⟨hk, hl, rfl, rfl, q3, q4, q5, q6, rfl, rfl, hq, hq8⟩
      have hWW := hW ht.symm k l p v' w' q hI
      first | refine jm_aload_n d_M_change_54 rfl ?_ | refine jm_aload_nN d_M_change_54 rfl ?_
      refine jm_iload_n d_M_change_55 rfl ?_
      refine jm_iload_n d_M_change_56 rfl ?_
      refine jm_iload_n d_M_change_57 rfl ?_
      refine jm_iload d_M_change_58 rfl ?_
      refine jm_iload d_M_change_60 rfl ?_
      refine mr_call (As := [_, _, _, _, _]) d_M_change_62 l_M_157 iw_M_setCost ew_M_setCost nv_M_setCost rfl (Nat.le_of_ble_eq_true rfl) (by omega : 1 + 1 ≤ _) (k_M_setCost (S := mu S 0 0 0) (np := np) (p := p) (v := v') (w := w') hp h12 (nI k) (nI l) c (by omega) (by rw [pairF_mu]; exact q3) q4 q5 q6) hm hf (fun v9 S9 h hq hm hf => ?_)
      obtain ⟨rfl, rfl⟩ := hq
      have e10 : mu (mu S 0 0 0) 8 (plS (mu S 0 0 0) p (nI k) v' w') (farS c) 10 k = nI q := (by assumption : S 10 k = nI q)
      have er : cg0 S p k v' w' c q 12 q = S 12 q + 1 := by simp [mu]
      first | refine jm_aload_n d_M_change_65 rfl ?_ | refine jm_aload_nN d_M_change_65 rfl ?_
      refine mr_geta d_M_change_66 f_M_28 hm (by decide) (by decide) ?_
      refine jm_iload_n d_M_change_69 rfl ?_
      refine mr_ldN _ d_M_change_70 hm (by decide) (by decide) rfl rfl (by simp only [mo_len]; omega) ?_
      rw [e10]
      refine jm_istore d_M_change_71 (Nat.le_of_ble_eq_true rfl) ?_
      first | refine jm_aload_n d_M_change_73 rfl ?_ | refine jm_aload_nN d_M_change_73 rfl ?_
      refine mr_geta d_M_change_74 f_M_34 hm (by decide) (by decide) ?_
      refine jm_iload d_M_change_77 rfl ?_
      refine jm_dup2 d_M_change_79 rfl rfl ?_
      refine mr_ldN _ d_M_change_80 hm (by decide) (by decide) rfl rfl (by simp only [mo_len]; omega) ?_
      refine jm_iconstL (v := 1) d_M_change_81 (by decide) ?_
      refine jm_iadd d_M_change_82 ?_
      refine mr_stN _ d_M_change_83 hm hf (by decide) (by decide) rfl rfl (by simp only [mo_len]; omega) (fun h hm hf => ?_)
      first | refine jm_aload_n d_M_change_84 rfl ?_ | refine jm_aload_nN d_M_change_84 rfl ?_
      refine jm_iconstL (v := 0) d_M_change_85 (by decide) ?_
      refine mr_puti d_M_change_86 f_M_205 hm hf (by decide) rfl (fun h hm hf => ?_)
      have hm : mo h m ar (cg0 S p k v' w' c q) := hm
      first | refine jm_aload_n d_M_change_89 rfl ?_ | refine jm_aload_nN d_M_change_89 rfl ?_
      first | refine jm_aload_n d_M_change_90 rfl ?_ | refine jm_aload_nN d_M_change_90 rfl ?_
      refine mr_geta d_M_change_91 f_M_50 hm (by decide) (by decide) ?_
      refine jm_iload_n d_M_change_94 rfl ?_
      refine mr_ldN _ d_M_change_95 hm (by decide) (by decide) rfl rfl (by simp only [mo_len]; omega) ?_
      refine jm_iload_n d_M_change_96 rfl ?_
      refine jm_callSp (As := [_, _]) d_M_change_97 l_M_120 sw_M_has nv_M_has rfl (Nat.le_of_ble_eq_true rfl) (by omega : 0 + 1 ≤ _) (k_M_has _ _) ?_
      first | refine jm_bz_eq 107 d_M_change_100 (by decide) (fun hb100 => ?_) (fun hb100 => ?_) | refine jm_if_eq 107 d_M_change_100 (by decide) (fun hb100 => ?_) (fun hb100 => ?_)
      · rw [if_neg (show ¬ cI (S 17 k) (nI l) from hb100)] at hWW
        refine jm_iload_n d_M_change_107 rfl ?_
        first | refine jm_aload_n d_M_change_108 rfl ?_ | refine jm_aload_nN d_M_change_108 rfl ?_
        refine mr_geta d_M_change_109 f_M_34 hm (by decide) (by decide) ?_
        refine jm_iload d_M_change_112 rfl ?_
        refine mr_ldN _ d_M_change_114 hm (by decide) (by decide) rfl rfl (by simp only [mo_len]; omega) ?_
        rw [er]
        refine mr_call (As := [_, _]) d_M_change_115 l_M_186 iw_M_work ew_M_work nv_M_work rfl (Nat.le_of_ble_eq_true rfl) (by omega : 5 + 1 ≤ _) (c_M_work (S := cg0 S p k v' w' c q) (a := l) (n := n) (np := np) (nl := nl) (S 12 q + 1) (by omega) (hWW)) hm hf (fun v9 S9 h hq hm hf => ?_)
        obtain ⟨rfl, rfl⟩ := hq
        first | refine jm_aload_n d_M_change_118 rfl ?_ | refine jm_aload_nN d_M_change_118 rfl ?_
        refine mr_geti d_M_change_119 f_M_176 hm (by decide) rfl ?_
        exact jm_iret d_M_change_122 rfl ⟨_, _, rfl, Or.inr ⟨ht.symm, k, l, p, v', w', q, hI, by rw [if_neg (show ¬ cI (S 17 k) (nI l) from hb100)], rfl⟩, hm, hf⟩
      · rw [if_pos (show cI (S 17 k) (nI l) from hb100)] at hWW
        refine jm_iload_n d_M_change_103 rfl ?_
        refine jm_goto 108 d_M_change_104 (by decide) ?_
        first | refine jm_aload_n d_M_change_108 rfl ?_ | refine jm_aload_nN d_M_change_108 rfl ?_
        refine mr_geta d_M_change_109 f_M_34 hm (by decide) (by decide) ?_
        refine jm_iload d_M_change_112 rfl ?_
        refine mr_ldN _ d_M_change_114 hm (by decide) (by decide) rfl rfl (by simp only [mo_len]; omega) ?_
        rw [er]
        refine mr_call (As := [_, _]) d_M_change_115 l_M_186 iw_M_work ew_M_work nv_M_work rfl (Nat.le_of_ble_eq_true rfl) (by omega : 5 + 1 ≤ _) (c_M_work (S := cg0 S p k v' w' c q) (a := k) (n := n) (np := np) (nl := nl) (S 12 q + 1) (by omega) (hWW)) hm hf (fun v9 S9 h hq hm hf => ?_)
        obtain ⟨rfl, rfl⟩ := hq
        first | refine jm_aload_n d_M_change_118 rfl ?_ | refine jm_aload_nN d_M_change_118 rfl ?_
        refine mr_geti d_M_change_119 f_M_176 hm (by decide) rfl ?_
        exact jm_iret d_M_change_122 rfl ⟨_, _, rfl, Or.inr ⟨ht.symm, k, l, p, v', w', q, hI, by rw [if_pos (show cI (S 17 k) (nI l) from hb100)], rfl⟩, hm, hf⟩
    · refine jm_iconstL (v := 0) d_M_change_52 (by decide) ?_
      exact jm_iret d_M_change_53 rfl ⟨_, _, rfl, Or.inl ⟨fun q => hb49 (by show t ≤ 0; rw [ht, q]; decide), by rw [← ht], rfl⟩, hm, hf⟩
  refine jm_entry (by decide +kernel) (List.forall_mem_cons.mpr ⟨rfl, List.forall_mem_cons.mpr ⟨rfl, List.forall_mem_cons.mpr ⟨rfl, List.forall_mem_cons.mpr ⟨rfl, List.forall_mem_cons.mpr ⟨rfl, List.forall_mem_cons.mpr ⟨rfl, fun _ h => nomatch h⟩⟩⟩⟩⟩⟩) (Nat.le_of_ble_eq_true rfl) ?_
  show jm_W _ _ _ _ _ _ 0 [some (.ref m), some (.int a), some (.int b), some (.int v), some (.int w), some (.int c), none, none] [] _
  first | refine jm_aload_n d_M_change_0 rfl ?_ | refine jm_aload_nN d_M_change_0 rfl ?_
  refine mr_callp (As := []) d_M_change_1 l_M_238 iw_M_state ew_M_state nv_M_state rfl (Nat.le_of_ble_eq_true rfl) (by omega : 1 + 1 ≤ _) (k_M_state (by omega) hn h8 hpt) hm ?_
  refine jm_istore d_M_change_4 (Nat.le_of_ble_eq_true rfl) ?_
  first | refine jm_aload_n d_M_change_6 rfl ?_ | refine jm_aload_nN d_M_change_6 rfl ?_
  first | refine jm_aload_n d_M_change_7 rfl ?_ | refine jm_aload_nN d_M_change_7 rfl ?_
  refine jm_iload_n d_M_change_8 rfl ?_
  refine jm_iload_n d_M_change_9 rfl ?_
  refine jm_iload_n d_M_change_10 rfl ?_
  refine jm_iload d_M_change_11 rfl ?_
  refine jm_iload d_M_change_13 rfl ?_
  refine mr_callp (As := [_, _, _, _, _]) d_M_change_15 l_M_153 iw_M_isPairCost ew_M_isPairCost nv_M_isPairCost rfl (Nat.le_of_ble_eq_true rfl) (by omega : 3 + 1 ≤ _) (k_M_isPairCost (by omega) hn h8 hp h12 _ _ _ _ _) hm ?_
  first | refine jm_bz_ne 25 d_M_change_18 (by decide) (fun hb18 => ?_) (fun hb18 => ?_) | refine jm_if_ne 25 d_M_change_18 (by decide) (fun hb18 => ?_) (fun hb18 => ?_)
  · refine jm_iload d_M_change_25 rfl ?_
    refine jm_iconstL (v := 1) d_M_change_27 (by decide) ?_
    refine jm_icmp_eq 41 d_M_change_28 (by decide) (fun hb28 => ?_) (fun hb28 => ?_)
    · refine jm_iconstL (v := 0) d_M_change_41 (by decide) ?_
      first | exact J _ (thF_3 (fun q => q hb18) (fun q => q.1 hb28)) h hm hf | exact J _ (thF_3 (fun q => q hb18) (fun q => q.2 hb34)) h hm hf
    · refine jm_iload d_M_change_31 rfl ?_
      refine jm_iconstL (v := 2) d_M_change_33 (by decide) ?_
      refine jm_icmp_eq 41 d_M_change_34 (by decide) (fun hb34 => ?_) (fun hb34 => ?_)
      · refine jm_iconstL (v := 0) d_M_change_41 (by decide) ?_
        first | exact J _ (thF_3 (fun q => q hb18) (fun q => q.1 hb28)) h hm hf | exact J _ (thF_3 (fun q => q hb18) (fun q => q.2 hb34)) h hm hf
      · refine jm_iconstL (v := 2) d_M_change_37 (by decide) ?_
        refine jm_goto 42 d_M_change_38 (by decide) ?_
        exact J _ (thF_2 (fun q => q hb18) ⟨hb28, hb34⟩) h hm hf
  · refine jm_iconstL (v := 1) d_M_change_21 (by decide) ?_
    refine jm_goto 42 d_M_change_22 (by decide) ?_
    exact J _ (thF_1 hb18) h hm hf
end
