/-! THE REFERENCE: pairs and their costs. Written by wip/whole/gen/p24.py -/
section
variable {Γ : jm_G} {d m : Nat} {ar : Nat → Nat} {S : mS} {h : jm_H}
theorem pairF_ix (a b : Int32) : ∀ k p, p + k ≤ 12 → (pairF S a b k p = -1 ∧ ∀ q, p ≤ q → q < p + k → ¬ ((S 6 q = a ∧ S 7 q = b) ∨ (S 6 q = b ∧ S 7 q = a))) ∨ ∃ q, p ≤ q ∧ q < p + k ∧ pairF S a b k p = nI q ∧ ((S 6 q = a ∧ S 7 q = b) ∨ (S 6 q = b ∧ S 7 q = a)) := by
  intro k
  induction k with
  | zero => intro p _; exact Or.inl ⟨rfl, fun q h1 h2 => by omega⟩
  | succ k ih =>
    intro p hp
    by_cases hq : (S 6 p = a ∧ S 7 p = b) ∨ (S 6 p = b ∧ S 7 p = a)
    · exact Or.inr ⟨p, by omega, by omega, if_pos hq, hq⟩
    · rw [show pairF S a b (k + 1) p = pairF S a b k (p + 1) from if_neg hq]
      rcases ih (p + 1) (by omega) with ⟨h1, h2⟩ | ⟨q, h1, h2, h3, h4⟩
      · refine Or.inl ⟨h1, fun q q1 q2 => ?_⟩
        by_cases e : q = p
        · rw [e]; exact hq
        · exact h2 q (by omega) (by omega)
      · exact Or.inr ⟨q, by omega, by omega, h3, h4⟩
theorem pairF_neg {a b : Int32} {np : Nat} (h12 : np ≤ 12) : pairF S a b np 0 < 0 ↔ pairF S a b np 0 = -1 := by
  rcases pairF_ix (S := S) a b np 0 (by omega) with ⟨h1, -⟩ | ⟨q, h1, h2, h3, -⟩
  · rw [h1]; decide
  · rw [h3]
    constructor
    · intro z; exact absurd z (nI_pos (by omega))
    · intro z; exact absurd (show nI q < 0 by rw [z]; decide) (nI_pos (by omega))
abbrev isPC (S : mS) (np : Nat) (a b v w c : Int32) : Prop := ¬ pairF S a b np 0 < 0 ∧ isValueS S a v ∧ isValueS S b w ∧ isCostS c
abbrev plS (S : mS) (p : Nat) (a : Int32) (v w : Nat) : Nat := 16 * p + (if S 6 p = a then 4 * v + w else 4 * w + v)
theorem k_M_isPairCost {n np : Nat} (hd : 3 ≤ d) (hn : S 1 0 = nI n) (h8 : n ≤ 8) (hp : S 5 0 = nI np) (h12 : np ≤ 12) (a b v w c : Int32) : mA Γ m_M_isPairCost d m ar [.int a, .int b, .int v, .int w, .int c] S (some (.int (if isPC S np a b v w c then 1 else 0))) := by
  intro h hm
  refine jm_entry (by decide +kernel) (List.forall_mem_cons.mpr ⟨rfl, List.forall_mem_cons.mpr ⟨rfl, List.forall_mem_cons.mpr ⟨rfl, List.forall_mem_cons.mpr ⟨rfl, List.forall_mem_cons.mpr ⟨rfl, List.forall_mem_cons.mpr ⟨rfl, fun _ h => nomatch h⟩⟩⟩⟩⟩⟩) (Nat.le_of_ble_eq_true rfl) ?_
  show jm_W _ _ _ _ _ _ 0 [some (.ref m), some (.int a), some (.int b), some (.int v), some (.int w), some (.int c)] [] _
  first | refine jm_aload_n d_M_isPairCost_0 rfl ?_ | refine jm_aload_nN d_M_isPairCost_0 rfl ?_
  refine jm_iload_n d_M_isPairCost_1 rfl ?_
  refine jm_iload_n d_M_isPairCost_2 rfl ?_
  refine mr_callp (As := [_, _]) d_M_isPairCost_3 l_M_149 iw_M_pairOf ew_M_pairOf nv_M_pairOf rfl (Nat.le_of_ble_eq_true rfl) (by omega : 0 + 1 ≤ _) (k_M_pairOf hp h12 _ _) hm ?_
  refine jm_if_lt 40 d_M_isPairCost_6 (by decide) (fun hb6 => ?_) (fun hb6 => ?_)
  · refine jm_iconstL (v := 0) d_M_isPairCost_40 (by decide) ?_
    exact jm_zret d_M_isPairCost_41 rfl rfl ⟨rfl, by rw [if_neg (fun q : isPC S np a b v w c => q.1 hb6)]⟩
  · first | refine jm_aload_n d_M_isPairCost_9 rfl ?_ | refine jm_aload_nN d_M_isPairCost_9 rfl ?_
    refine jm_iload_n d_M_isPairCost_10 rfl ?_
    refine jm_iload_n d_M_isPairCost_11 rfl ?_
    refine mr_callp (As := [_, _]) d_M_isPairCost_12 l_M_139 iw_M_isValue ew_M_isValue nv_M_isValue rfl (Nat.le_of_ble_eq_true rfl) (by omega : 2 + 1 ≤ _) (k_M_isValue (by omega) hn h8 _ _) hm ?_
    first | refine jm_bz_eq 40 d_M_isPairCost_15 (by decide) (fun hb15 => ?_) (fun hb15 => ?_) | refine jm_if_eq 40 d_M_isPairCost_15 (by decide) (fun hb15 => ?_) (fun hb15 => ?_)
    · refine jm_iconstL (v := 0) d_M_isPairCost_40 (by decide) ?_
      exact jm_zret d_M_isPairCost_41 rfl rfl ⟨rfl, by rw [if_neg (fun q : isPC S np a b v w c => hb15 q.2.1)]⟩
    · first | refine jm_aload_n d_M_isPairCost_18 rfl ?_ | refine jm_aload_nN d_M_isPairCost_18 rfl ?_
      refine jm_iload_n d_M_isPairCost_19 rfl ?_
      refine jm_iload d_M_isPairCost_20 rfl ?_
      refine mr_callp (As := [_, _]) d_M_isPairCost_22 l_M_139 iw_M_isValue ew_M_isValue nv_M_isValue rfl (Nat.le_of_ble_eq_true rfl) (by omega : 2 + 1 ≤ _) (k_M_isValue (by omega) hn h8 _ _) hm ?_
      first | refine jm_bz_eq 40 d_M_isPairCost_25 (by decide) (fun hb25 => ?_) (fun hb25 => ?_) | refine jm_if_eq 40 d_M_isPairCost_25 (by decide) (fun hb25 => ?_) (fun hb25 => ?_)
      · refine jm_iconstL (v := 0) d_M_isPairCost_40 (by decide) ?_
        exact jm_zret d_M_isPairCost_41 rfl rfl ⟨rfl, by rw [if_neg (fun q : isPC S np a b v w c => hb25 q.2.2.1)]⟩
      · refine jm_iload d_M_isPairCost_28 rfl ?_
        refine jm_callSp (As := [_]) d_M_isPairCost_30 l_M_142 sw_M_isCost nv_M_isCost rfl (Nat.le_of_ble_eq_true rfl) (by omega : 1 + 1 ≤ _) (k_M_isCost (by omega) _) ?_
        first | refine jm_bz_eq 40 d_M_isPairCost_33 (by decide) (fun hb33 => ?_) (fun hb33 => ?_) | refine jm_if_eq 40 d_M_isPairCost_33 (by decide) (fun hb33 => ?_) (fun hb33 => ?_)
        · refine jm_iconstL (v := 0) d_M_isPairCost_40 (by decide) ?_
          exact jm_zret d_M_isPairCost_41 rfl rfl ⟨rfl, by rw [if_neg (fun q : isPC S np a b v w c => hb33 q.2.2.2)]⟩
        · refine jm_iconstL (v := 1) d_M_isPairCost_36 (by decide) ?_
          refine jm_goto 41 d_M_isPairCost_37 (by decide) ?_
          exact jm_zret d_M_isPairCost_41 rfl rfl ⟨rfl, by rw [if_pos (⟨hb6, hb15, hb25, hb33⟩ : isPC S np a b v w c)]⟩
theorem k_M_setCost {np p v w : Nat} (hp : S 5 0 = nI np) (h12 : np ≤ 12) (a b c : Int32) (hd : 1 ≤ d) (hpp : pairF S a b np 0 = nI p) (hp2 : p < np) (hv : v < 4) (hw : w < 4) : mM Γ m_M_setCost d m ar [.int a, .int b, .int (nI v), .int (nI w), .int c] S (fun v9 S' => v9 = none ∧ S' = mu S 8 (plS S p a v w) (farS c)) := by
  intro h hm
  have hf : mo_fr m ar h h := mo_fr.rf
  refine jm_entry (by decide +kernel) (List.forall_mem_cons.mpr ⟨rfl, List.forall_mem_cons.mpr ⟨rfl, List.forall_mem_cons.mpr ⟨rfl, List.forall_mem_cons.mpr ⟨rfl, List.forall_mem_cons.mpr ⟨rfl, List.forall_mem_cons.mpr ⟨rfl, fun _ h => nomatch h⟩⟩⟩⟩⟩⟩) (Nat.le_of_ble_eq_true rfl) ?_
  show jm_W _ _ _ _ _ _ 0 [some (.ref m), some (.int a), some (.int b), some (.int (nI v)), some (.int (nI w)), some (.int c), none, none] [] _
  first | refine jm_aload_n d_M_setCost_0 rfl ?_ | refine jm_aload_nN d_M_setCost_0 rfl ?_
  refine jm_iload_n d_M_setCost_1 rfl ?_
  refine jm_iload_n d_M_setCost_2 rfl ?_
  refine mr_callp (As := [_, _]) d_M_setCost_3 l_M_149 iw_M_pairOf ew_M_pairOf nv_M_pairOf rfl (Nat.le_of_ble_eq_true rfl) (by omega : 0 + 1 ≤ _) (k_M_pairOf hp h12 _ _) hm ?_
  rw [hpp]
  refine jm_istore d_M_setCost_6 (Nat.le_of_ble_eq_true rfl) ?_
  first | refine jm_aload_n d_M_setCost_8 rfl ?_ | refine jm_aload_nN d_M_setCost_8 rfl ?_
  refine mr_geta d_M_setCost_9 f_M_16 hm (by decide) (by decide) ?_
  refine jm_iload d_M_setCost_12 rfl ?_
  refine mr_ld _ d_M_setCost_14 hm (by decide) (by decide) rfl (vp_in_nI (by show p < 12; omega) (by decide)) ?_
  refine jm_iload_n d_M_setCost_15 rfl ?_
  refine jm_icmp_ne 28 d_M_setCost_16 (by decide) (fun hb16 => ?_) (fun hb16 => ?_)
  · refine jm_iconstL (v := 4) d_M_setCost_28 (by decide) ?_
    refine jm_iload d_M_setCost_29 rfl ?_
    refine jm_imul d_M_setCost_31 ?_
    refine jm_iload_n d_M_setCost_32 rfl ?_
    refine jm_iadd d_M_setCost_33 ?_
    rw [nI_clamp (show p < 2 ^ 31 by omega)] at hb16
    first | rw [show (4 : Int32) * nI v + nI w = nI (4 * v + w) by rw [show (4 : Int32) = nI 4 from rfl, pk_mul, nI_add]] | rw [show (4 : Int32) * nI w + nI v = nI (4 * w + v) by rw [show (4 : Int32) = nI 4 from rfl, pk_mul, nI_add]]
    refine jm_istore d_M_setCost_34 (Nat.le_of_ble_eq_true rfl) ?_
    first | refine jm_aload_n d_M_setCost_36 rfl ?_ | refine jm_aload_nN d_M_setCost_36 rfl ?_
    refine mr_geta d_M_setCost_37 f_M_22 hm (by decide) (by decide) ?_
    refine jm_bipushL (v := 16) d_M_setCost_40 (by decide) ?_
    refine jm_iload d_M_setCost_42 rfl ?_
    refine jm_imul d_M_setCost_44 ?_
    refine jm_iload d_M_setCost_45 rfl ?_
    refine jm_iadd d_M_setCost_47 ?_
    first | rw [show (16 : Int32) * nI p + nI (4 * v + w) = nI (16 * p + (4 * v + w)) by rw [show (16 : Int32) = nI 16 from rfl, pk_mul, nI_add]] | rw [show (16 : Int32) * nI p + nI (4 * w + v) = nI (16 * p + (4 * w + v)) by rw [show (16 : Int32) = nI 16 from rfl, pk_mul, nI_add]]
    refine jm_iload d_M_setCost_48 rfl ?_
    refine jm_bipushL (v := (-2)) d_M_setCost_50 (by decide) ?_
    refine jm_icmp_ne 60 d_M_setCost_52 (by decide) (fun hb52 => ?_) (fun hb52 => ?_)
    · refine jm_iload d_M_setCost_60 rfl ?_
      refine mr_st _ d_M_setCost_62 hm hf (by decide) (by decide) rfl (vp_in_nI (by show _ < 192; omega) (by decide)) (fun h hm hf => ?_)
      exact jm_vret d_M_setCost_63 rfl ⟨_, _, rfl, ⟨rfl, by rw [nI_clamp (by omega)]; simp only [plS, farS]; (first | rw [if_neg hb16] | rw [if_pos (Decidable.not_not.mp hb16)]); (first | rw [if_neg hb52] | rw [if_pos (Decidable.not_not.mp hb52)])⟩, hm, hf⟩
    · refine jm_ldc d_M_setCost_55 k_M_145 ?_
      refine jm_goto 62 d_M_setCost_57 (by decide) ?_
      refine mr_st _ d_M_setCost_62 hm hf (by decide) (by decide) rfl (vp_in_nI (by show _ < 192; omega) (by decide)) (fun h hm hf => ?_)
      exact jm_vret d_M_setCost_63 rfl ⟨_, _, rfl, ⟨rfl, by rw [nI_clamp (by omega)]; simp only [plS, farS]; (first | rw [if_neg hb16] | rw [if_pos (Decidable.not_not.mp hb16)]); (first | rw [if_neg hb52] | rw [if_pos (Decidable.not_not.mp hb52)])⟩, hm, hf⟩
  · refine jm_iconstL (v := 4) d_M_setCost_19 (by decide) ?_
    refine jm_iload_n d_M_setCost_20 rfl ?_
    refine jm_imul d_M_setCost_21 ?_
    refine jm_iload d_M_setCost_22 rfl ?_
    refine jm_iadd d_M_setCost_24 ?_
    refine jm_goto 34 d_M_setCost_25 (by decide) ?_
    rw [nI_clamp (show p < 2 ^ 31 by omega)] at hb16
    first | rw [show (4 : Int32) * nI v + nI w = nI (4 * v + w) by rw [show (4 : Int32) = nI 4 from rfl, pk_mul, nI_add]] | rw [show (4 : Int32) * nI w + nI v = nI (4 * w + v) by rw [show (4 : Int32) = nI 4 from rfl, pk_mul, nI_add]]
    refine jm_istore d_M_setCost_34 (Nat.le_of_ble_eq_true rfl) ?_
    first | refine jm_aload_n d_M_setCost_36 rfl ?_ | refine jm_aload_nN d_M_setCost_36 rfl ?_
    refine mr_geta d_M_setCost_37 f_M_22 hm (by decide) (by decide) ?_
    refine jm_bipushL (v := 16) d_M_setCost_40 (by decide) ?_
    refine jm_iload d_M_setCost_42 rfl ?_
    refine jm_imul d_M_setCost_44 ?_
    refine jm_iload d_M_setCost_45 rfl ?_
    refine jm_iadd d_M_setCost_47 ?_
    first | rw [show (16 : Int32) * nI p + nI (4 * v + w) = nI (16 * p + (4 * v + w)) by rw [show (16 : Int32) = nI 16 from rfl, pk_mul, nI_add]] | rw [show (16 : Int32) * nI p + nI (4 * w + v) = nI (16 * p + (4 * w + v)) by rw [show (16 : Int32) = nI 16 from rfl, pk_mul, nI_add]]
    refine jm_iload d_M_setCost_48 rfl ?_
    refine jm_bipushL (v := (-2)) d_M_setCost_50 (by decide) ?_
    refine jm_icmp_ne 60 d_M_setCost_52 (by decide) (fun hb52 => ?_) (fun hb52 => ?_)
    · refine jm_iload d_M_setCost_60 rfl ?_
      refine mr_st _ d_M_setCost_62 hm hf (by decide) (by decide) rfl (vp_in_nI (by show _ < 192; omega) (by decide)) (fun h hm hf => ?_)
      exact jm_vret d_M_setCost_63 rfl ⟨_, _, rfl, ⟨rfl, by rw [nI_clamp (by omega)]; simp only [plS, farS]; (first | rw [if_neg hb16] | rw [if_pos (Decidable.not_not.mp hb16)]); (first | rw [if_neg hb52] | rw [if_pos (Decidable.not_not.mp hb52)])⟩, hm, hf⟩
    · refine jm_ldc d_M_setCost_55 k_M_145 ?_
      refine jm_goto 62 d_M_setCost_57 (by decide) ?_
      refine mr_st _ d_M_setCost_62 hm hf (by decide) (by decide) rfl (vp_in_nI (by show _ < 192; omega) (by decide)) (fun h hm hf => ?_)
      exact jm_vret d_M_setCost_63 rfl ⟨_, _, rfl, ⟨rfl, by rw [nI_clamp (by omega)]; simp only [plS, farS]; (first | rw [if_neg hb16] | rw [if_pos (Decidable.not_not.mp hb16)]); (first | rw [if_neg hb52] | rw [if_pos (Decidable.not_not.mp hb52)])⟩, hm, hf⟩
abbrev thCost (S : mS) (np : Nat) (a b v w c : Int32) : Int32 := thF (¬ isPC S np a b v w c) (S 2 0 ≠ 0)
theorem isPC_ix {n np : Nat} (hn : S 1 0 = nI n) (h8 : n ≤ 8) (h12 : np ≤ 12) (hz : szOK S n) {a b v w c : Int32} (h : isPC S np a b v w c) : ∃ p v' w', pairF S a b np 0 = nI p ∧ p < np ∧ v' < 4 ∧ w' < 4 ∧ v = nI v' ∧ w = nI w' := by
  obtain ⟨h1, h2, h3, h4⟩ := h
  obtain ⟨k, v', z, -, -, z1, -, z3, rfl⟩ := val_ix hn h8 hz h2
  obtain ⟨k2, w', z', -, -, y1, -, y3, rfl⟩ := val_ix hn h8 hz h3
  rcases pairF_ix (S := S) a b np 0 (by omega) with ⟨q, -⟩ | ⟨p, q1, q2, q3, -⟩
  · exact absurd ((pairF_neg h12).mpr q) h1
  · exact ⟨p, v', w', q3, by omega, by omega, by omega, rfl, rfl⟩
theorem pairF_mu {a b t : Int32} (k p : Nat) : pairF (mu S 0 0 t) a b k p = pairF S a b k p := by
  induction k generalizing p with
  | zero => rfl
  | succ k ih =>
    show (if (mu S 0 0 t 6 p = a ∧ mu S 0 0 t 7 p = b) ∨ (mu S 0 0 t 6 p = b ∧ mu S 0 0 t 7 p = a) then nI p else pairF (mu S 0 0 t) a b k (p + 1)) = if (S 6 p = a ∧ S 7 p = b) ∨ (S 6 p = b ∧ S 7 p = a) then nI p else pairF S a b k (p + 1)
    rw [ih (p + 1)]
    simp [mu]
theorem k_M_cost {n np : Nat} (hd : 4 ≤ d) (hn : S 1 0 = nI n) (h8 : n ≤ 8) (hz : szOK S n) (hp : S 5 0 = nI np) (h12 : np ≤ 12) (a b v w c : Int32) : mM Γ m_M_cost d m ar [.int a, .int b, .int v, .int w, .int c] S (fun v9 S' => v9 = none ∧ ((thCost S np a b v w c ≠ 0 ∧ S' = mu S 0 0 (thCost S np a b v w c)) ∨ (thCost S np a b v w c = 0 ∧ ∃ p v' w', pairF S a b np 0 = nI p ∧ p < np ∧ v' < 4 ∧ w' < 4 ∧ v = nI v' ∧ w = nI w' ∧ S' = mu (mu S 0 0 0) 8 (plS S p a v' w') (farS c)))) := by
  intro h hm
  have hf : mo_fr m ar h h := mo_fr.rf
  have J : ∀ t, t = thCost S np a b v w c → ∀ h1, mo h1 m ar S → mo_fr m ar h h1 → jm_W Γ m_M_cost d 0 0 (fun oc h' => ∃ v9 S', oc = .inl v9 ∧ (v9 = none ∧ ((thCost S np a b v w c ≠ 0 ∧ S' = mu S 0 0 (thCost S np a b v w c)) ∨ (thCost S np a b v w c = 0 ∧ ∃ p v' w', pairF S a b np 0 = nI p ∧ p < np ∧ v' < 4 ∧ w' < 4 ∧ v = nI v' ∧ w = nI w' ∧ S' = mu (mu S 0 0 0) 8 (plS S p a v' w') (farS c)))) ∧ mo h' m ar S' ∧ mo_fr m ar h h') 31 [some (.ref m), some (.int a), some (.int b), some (.int v), some (.int w), some (.int c)] [.int t, .ref m] h1 := by
    intro t ht h1 hm1 hf1
    have hm := hm1
    have hf := hf1
    clear hm1 hf1
    refine mr_puti d_M_cost_31 f_M_116 hm hf (by decide) rfl (fun h hm hf => ?_)
    first | refine jm_aload_n d_M_cost_34 rfl ?_ | refine jm_aload_nN d_M_cost_34 rfl ?_
    refine mr_geti d_M_cost_35 f_M_116 hm (by decide) rfl ?_
    first | refine jm_bz_ne 52 d_M_cost_38 (by decide) (fun hb38 => ?_) (fun hb38 => ?_) | refine jm_if_ne 52 d_M_cost_38 (by decide) (fun hb38 => ?_) (fun hb38 => ?_)
    · exact jm_vret d_M_cost_52 rfl ⟨_, _, rfl, ⟨rfl, Or.inl ⟨fun q => hb38 (by show t = 0; rw [ht, q]), by rw [← ht]⟩⟩, hm, hf⟩
    · have hz0 : t = 0 := Decidable.not_not.mp hb38
      subst hz0
      have q0 := thF_0.mp ht.symm
      obtain ⟨p, v', w', q3, q4, q5, q6, rfl, rfl⟩ := isPC_ix hn h8 h12 hz (Decidable.not_not.mp q0.1)
      first | refine jm_aload_n d_M_cost_41 rfl ?_ | refine jm_aload_nN d_M_cost_41 rfl ?_
      refine jm_iload_n d_M_cost_42 rfl ?_
      refine jm_iload_n d_M_cost_43 rfl ?_
      refine jm_iload_n d_M_cost_44 rfl ?_
      refine jm_iload d_M_cost_45 rfl ?_
      refine jm_iload d_M_cost_47 rfl ?_
      refine mr_call (As := [_, _, _, _, _]) d_M_cost_49 l_M_157 iw_M_setCost ew_M_setCost nv_M_setCost rfl (Nat.le_of_ble_eq_true rfl) (by omega : 1 + 1 ≤ _) (k_M_setCost (S := mu S 0 0 0) (np := np) (p := p) (v := v') (w := w') hp h12 a b c (by omega) (by rw [pairF_mu]; exact q3) q4 q5 q6) hm hf (fun v9 S9 h hq hm hf => ?_)
      obtain ⟨rfl, rfl⟩ := hq
      exact jm_vret d_M_cost_52 rfl ⟨_, _, rfl, ⟨rfl, Or.inr ⟨ht.symm, p, v', w', q3, q4, q5, q6, rfl, rfl, rfl⟩⟩, hm, hf⟩
  refine jm_entry (by decide +kernel) (List.forall_mem_cons.mpr ⟨rfl, List.forall_mem_cons.mpr ⟨rfl, List.forall_mem_cons.mpr ⟨rfl, List.forall_mem_cons.mpr ⟨rfl, List.forall_mem_cons.mpr ⟨rfl, List.forall_mem_cons.mpr ⟨rfl, fun _ h => nomatch h⟩⟩⟩⟩⟩⟩) (Nat.le_of_ble_eq_true rfl) ?_
  show jm_W _ _ _ _ _ _ 0 [some (.ref m), some (.int a), some (.int b), some (.int v), some (.int w), some (.int c)] [] _
  first | refine jm_aload_n d_M_cost_0 rfl ?_ | refine jm_aload_nN d_M_cost_0 rfl ?_
  first | refine jm_aload_n d_M_cost_1 rfl ?_ | refine jm_aload_nN d_M_cost_1 rfl ?_
  refine jm_iload_n d_M_cost_2 rfl ?_
  refine jm_iload_n d_M_cost_3 rfl ?_
  refine jm_iload_n d_M_cost_4 rfl ?_
  refine jm_iload d_M_cost_5 rfl ?_
  refine jm_iload d_M_cost_7 rfl ?_
  refine mr_callp (As := [_, _, _, _, _]) d_M_cost_9 l_M_153 iw_M_isPairCost ew_M_isPairCost nv_M_isPairCost rfl (Nat.le_of_ble_eq_true rfl) (by omega : 3 + 1 ≤ _) (k_M_isPairCost (by omega) hn h8 hp h12 _ _ _ _ _) hm ?_
  first | refine jm_bz_ne 19 d_M_cost_12 (by decide) (fun hb12 => ?_) (fun hb12 => ?_) | refine jm_if_ne 19 d_M_cost_12 (by decide) (fun hb12 => ?_) (fun hb12 => ?_)
  · first | refine jm_aload_n d_M_cost_19 rfl ?_ | refine jm_aload_nN d_M_cost_19 rfl ?_
    refine mr_geti d_M_cost_20 f_M_135 hm (by decide) rfl ?_
    first | refine jm_bz_eq 30 d_M_cost_23 (by decide) (fun hb23 => ?_) (fun hb23 => ?_) | refine jm_if_eq 30 d_M_cost_23 (by decide) (fun hb23 => ?_) (fun hb23 => ?_)
    · refine jm_iconstL (v := 0) d_M_cost_30 (by decide) ?_
      exact J _ (thF_3 (fun q => q hb12) (fun q => q hb23)) h hm hf
    · refine jm_iconstL (v := 2) d_M_cost_26 (by decide) ?_
      refine jm_goto 31 d_M_cost_27 (by decide) ?_
      exact J _ (thF_2 (fun q => q hb12) hb23) h hm hf
  · refine jm_iconstL (v := 1) d_M_cost_15 (by decide) ?_
    refine jm_goto 31 d_M_cost_16 (by decide) ?_
    exact J _ (thF_1 hb12) h hm hf
abbrev thPair (S : mS) (np : Nat) (a b : Int32) : Int32 := thF (¬ isAgentS S a ∨ ¬ isAgentS S b ∨ a = b) (S 2 0 ≠ 0 ∨ 0 ≤ pairF S a b np 0 ∨ S 5 0 = 12)
theorem k_M_pair {n np : Nat} (hd : 2 ≤ d) (hn : S 1 0 = nI n) (h8 : n ≤ 8) (hp : S 5 0 = nI np) (h12 : np ≤ 12) (a b : Int32) : mM Γ m_M_pair d m ar [.int a, .int b] S (fun v9 S' => (thPair S np a b ≠ 0 ∧ S' = mu S 0 0 (thPair S np a b) ∧ v9 = some (.int 0)) ∨ (thPair S np a b = 0 ∧ np < 12 ∧ ∃ k l, k < n ∧ l < n ∧ k ≠ l ∧ a = nI k ∧ b = nI l ∧ v9 = some (.int (nI (np + 1))) ∧ S' = mu (mu (mu (mu (mu (mu S 0 0 0) 6 np a) 7 np b) 5 0 (nI (np + 1))) 9 k (S 9 k ||| 1 <<< (b &&& 31))) 9 l (S 9 l ||| 1 <<< (a &&& 31)))) := by
  intro h hm
  have hf : mo_fr m ar h h := mo_fr.rf
  have J : ∀ t, t = thPair S np a b → ∀ h1, mo h1 m ar S → mo_fr m ar h h1 → jm_W Γ m_M_pair d 0 0 (fun oc h' => ∃ v9 S', oc = .inl v9 ∧ ((thPair S np a b ≠ 0 ∧ S' = mu S 0 0 (thPair S np a b) ∧ v9 = some (.int 0)) ∨ (thPair S np a b = 0 ∧ np < 12 ∧ ∃ k l, k < n ∧ l < n ∧ k ≠ l ∧ a = nI k ∧ b = nI l ∧ v9 = some (.int (nI (np + 1))) ∧ S' = mu (mu (mu (mu (mu (mu S 0 0 0) 6 np a) 7 np b) 5 0 (nI (np + 1))) 9 k (S 9 k ||| 1 <<< (b &&& 31))) 9 l (S 9 l ||| 1 <<< (a &&& 31)))) ∧ mo h' m ar S' ∧ mo_fr m ar h h') 56 [some (.ref m), some (.int a), some (.int b)] [.int t, .ref m] h1 := by
    intro t ht h1 hm1 hf1
    have hm := hm1
    have hf := hf1
    clear hm1 hf1
    refine mr_puti d_M_pair_56 f_M_116 hm hf (by decide) rfl (fun h hm hf => ?_)
    first | refine jm_aload_n d_M_pair_59 rfl ?_ | refine jm_aload_nN d_M_pair_59 rfl ?_
    refine mr_geti d_M_pair_60 f_M_116 hm (by decide) rfl ?_
    refine jm_if_le 68 d_M_pair_63 (by decide) (fun hb63 => ?_) (fun hb63 => ?_)
    · have hz0 : t = 0 := (by have q : t ≤ 0 := hb63; rw [ht] at q ⊢; exact thF_le.mp q)
      subst hz0
      have q0 := thF_0.mp ht.symm
      obtain ⟨k, hk, rfl⟩ := ag_ix hn h8 (Decidable.not_not.mp (fun q => q0.1 (Or.inl q)))
      obtain ⟨l, hl, rfl⟩ := ag_ix hn h8 (Decidable.not_not.mp (fun q => q0.1 (Or.inr (Or.inl q))))
      have hkl : k ≠ l := fun q => q0.1 (Or.inr (Or.inr (by rw [q])))
      have hnp : np < 12 := by
        rcases Nat.lt_or_ge np 12 with z | z
        · exact z
        · exact absurd (Or.inr (Or.inr (by rw [hp, show np = 12 by omega]; rfl))) q0.2
      first | refine jm_aload_n d_M_pair_68 rfl ?_ | refine jm_aload_nN d_M_pair_68 rfl ?_
      refine mr_geta d_M_pair_69 f_M_16 hm (by decide) (by decide) ?_
      first | refine jm_aload_n d_M_pair_72 rfl ?_ | refine jm_aload_nN d_M_pair_72 rfl ?_
      refine mr_geti d_M_pair_73 f_M_146 hm (by decide) rfl ?_
      refine jm_iload_n d_M_pair_76 rfl ?_
      refine mr_st _ d_M_pair_77 hm hf (by decide) (by decide) rfl (by show vp_in (mu S 0 0 0 5 0) 12; rw [show mu S 0 0 0 5 0 = nI np from hp]; exact vp_in_nI hnp (by decide)) (fun h hm hf => ?_)
      first | refine jm_aload_n d_M_pair_78 rfl ?_ | refine jm_aload_nN d_M_pair_78 rfl ?_
      refine mr_geta d_M_pair_79 f_M_19 hm (by decide) (by decide) ?_
      first | refine jm_aload_n d_M_pair_82 rfl ?_ | refine jm_aload_nN d_M_pair_82 rfl ?_
      refine mr_geti d_M_pair_83 f_M_146 hm (by decide) rfl ?_
      refine jm_iload_n d_M_pair_86 rfl ?_
      refine mr_st _ d_M_pair_87 hm hf (by decide) (by decide) rfl (by show vp_in (mu (mu S 0 0 0) 6 _ _ 5 0) 12; rw [show ∀ i x, mu (mu S 0 0 0) 6 i x 5 0 = nI np from fun _ _ => hp]; exact vp_in_nI hnp (by decide)) (fun h hm hf => ?_)
      first | refine jm_aload_n d_M_pair_88 rfl ?_ | refine jm_aload_nN d_M_pair_88 rfl ?_
      refine jm_dup d_M_pair_89 rfl ?_
      refine mr_geti d_M_pair_90 f_M_146 hm (by decide) rfl ?_
      refine jm_iconstL (v := 1) d_M_pair_93 (by decide) ?_
      refine jm_iadd d_M_pair_94 ?_
      refine mr_puti d_M_pair_95 f_M_146 hm hf (by decide) rfl (fun h hm hf => ?_)
      first | refine jm_aload_n d_M_pair_98 rfl ?_ | refine jm_aload_nN d_M_pair_98 rfl ?_
      refine mr_geta d_M_pair_99 f_M_25 hm (by decide) (by decide) ?_
      refine jm_iload_n d_M_pair_102 rfl ?_
      first | refine jm_aload_n d_M_pair_103 rfl ?_ | refine jm_aload_nN d_M_pair_103 rfl ?_
      refine mr_geta d_M_pair_104 f_M_25 hm (by decide) (by decide) ?_
      refine jm_iload_n d_M_pair_107 rfl ?_
      refine mr_ld _ d_M_pair_108 hm (by decide) (by decide) rfl (vp_in_nI (by show k < 8; omega) (by decide)) ?_
      refine jm_iconstL (v := 1) d_M_pair_109 (by decide) ?_
      refine jm_iload_n d_M_pair_110 rfl ?_
      refine jm_ishl d_M_pair_111 ?_
      refine jm_ior d_M_pair_112 ?_
      refine mr_st _ d_M_pair_113 hm hf (by decide) (by decide) rfl (vp_in_nI (by show k < 8; omega) (by decide)) (fun h hm hf => ?_)
      first | refine jm_aload_n d_M_pair_114 rfl ?_ | refine jm_aload_nN d_M_pair_114 rfl ?_
      refine mr_geta d_M_pair_115 f_M_25 hm (by decide) (by decide) ?_
      refine jm_iload_n d_M_pair_118 rfl ?_
      first | refine jm_aload_n d_M_pair_119 rfl ?_ | refine jm_aload_nN d_M_pair_119 rfl ?_
      refine mr_geta d_M_pair_120 f_M_25 hm (by decide) (by decide) ?_
      refine jm_iload_n d_M_pair_123 rfl ?_
      refine mr_ld _ d_M_pair_124 hm (by decide) (by decide) rfl (vp_in_nI (by show l < 8; omega) (by decide)) ?_
      refine jm_iconstL (v := 1) d_M_pair_125 (by decide) ?_
      refine jm_iload_n d_M_pair_126 rfl ?_
      refine jm_ishl d_M_pair_127 ?_
      refine jm_ior d_M_pair_128 ?_
      refine mr_st _ d_M_pair_129 hm hf (by decide) (by decide) rfl (vp_in_nI (by show l < 8; omega) (by decide)) (fun h hm hf => ?_)
      first | refine jm_aload_n d_M_pair_130 rfl ?_ | refine jm_aload_nN d_M_pair_130 rfl ?_
      refine mr_geti d_M_pair_131 f_M_146 hm (by decide) rfl ?_
      exact jm_iret d_M_pair_134 rfl ⟨_, _, rfl, Or.inr ⟨ht.symm, hnp, k, l, hk, hl, hkl, rfl, rfl, by simp [mu, hp, nI_1], by simp only [nI_clamp (show np < 2 ^ 31 by omega), nI_clamp (show k < 2 ^ 31 by omega), nI_clamp (show l < 2 ^ 31 by omega), show mu S 0 0 0 5 0 = nI np from hp, show ∀ x, mu (mu S 0 0 0) 6 np x 5 0 = nI np from fun _ => hp, show ∀ x y, mu (mu (mu S 0 0 0) 6 np x) 7 np y 5 0 = nI np from fun _ _ => hp, nI_1]; simp only [mu]; funext j i; simp; grind⟩, hm, hf⟩
    · refine jm_iconstL (v := 0) d_M_pair_66 (by decide) ?_
      exact jm_iret d_M_pair_67 rfl ⟨_, _, rfl, Or.inl ⟨fun q => hb63 (by show t ≤ 0; rw [ht, q]; decide), by rw [← ht], rfl⟩, hm, hf⟩
  refine jm_entry (by decide +kernel) (List.forall_mem_cons.mpr ⟨rfl, List.forall_mem_cons.mpr ⟨rfl, List.forall_mem_cons.mpr ⟨rfl, fun _ h => nomatch h⟩⟩⟩) (Nat.le_of_ble_eq_true rfl) ?_
  show jm_W _ _ _ _ _ _ 0 [some (.ref m), some (.int a), some (.int b)] [] _
  first | refine jm_aload_n d_M_pair_0 rfl ?_ | refine jm_aload_nN d_M_pair_0 rfl ?_
  first | refine jm_aload_n d_M_pair_1 rfl ?_ | refine jm_aload_nN d_M_pair_1 rfl ?_
  refine jm_iload_n d_M_pair_2 rfl ?_
  refine mr_callp (As := [_]) d_M_pair_3 l_M_131 iw_M_isAgent ew_M_isAgent nv_M_isAgent rfl (Nat.le_of_ble_eq_true rfl) (by omega : 1 + 1 ≤ _) (k_M_isAgent (by omega) _) hm ?_
  first | refine jm_bz_eq 22 d_M_pair_6 (by decide) (fun hb6 => ?_) (fun hb6 => ?_) | refine jm_if_eq 22 d_M_pair_6 (by decide) (fun hb6 => ?_) (fun hb6 => ?_)
  · refine jm_iconstL (v := 1) d_M_pair_22 (by decide) ?_
    refine jm_goto 56 d_M_pair_23 (by decide) ?_
    exact J _ (thF_1 (by first | exact Or.inl hb6 | exact Or.inr (Or.inl hb14) | exact Or.inr (Or.inr (Decidable.not_not.mp hb19)))) h hm hf
  · first | refine jm_aload_n d_M_pair_9 rfl ?_ | refine jm_aload_nN d_M_pair_9 rfl ?_
    refine jm_iload_n d_M_pair_10 rfl ?_
    refine mr_callp (As := [_]) d_M_pair_11 l_M_131 iw_M_isAgent ew_M_isAgent nv_M_isAgent rfl (Nat.le_of_ble_eq_true rfl) (by omega : 1 + 1 ≤ _) (k_M_isAgent (by omega) _) hm ?_
    first | refine jm_bz_eq 22 d_M_pair_14 (by decide) (fun hb14 => ?_) (fun hb14 => ?_) | refine jm_if_eq 22 d_M_pair_14 (by decide) (fun hb14 => ?_) (fun hb14 => ?_)
    · refine jm_iconstL (v := 1) d_M_pair_22 (by decide) ?_
      refine jm_goto 56 d_M_pair_23 (by decide) ?_
      exact J _ (thF_1 (by first | exact Or.inl hb6 | exact Or.inr (Or.inl hb14) | exact Or.inr (Or.inr (Decidable.not_not.mp hb19)))) h hm hf
    · refine jm_iload_n d_M_pair_17 rfl ?_
      refine jm_iload_n d_M_pair_18 rfl ?_
      refine jm_icmp_ne 26 d_M_pair_19 (by decide) (fun hb19 => ?_) (fun hb19 => ?_)
      · first | refine jm_aload_n d_M_pair_26 rfl ?_ | refine jm_aload_nN d_M_pair_26 rfl ?_
        refine mr_geti d_M_pair_27 f_M_135 hm (by decide) rfl ?_
        first | refine jm_bz_ne 51 d_M_pair_30 (by decide) (fun hb30 => ?_) (fun hb30 => ?_) | refine jm_if_ne 51 d_M_pair_30 (by decide) (fun hb30 => ?_) (fun hb30 => ?_)
        · refine jm_iconstL (v := 2) d_M_pair_51 (by decide) ?_
          refine jm_goto 56 d_M_pair_52 (by decide) ?_
          exact J _ (thF_2 (fun q => by rcases q with q | q | q; exact q hb6; exact q hb14; exact hb19 q) (by first | exact Or.inl hb30 | exact Or.inr (Or.inl hb39) | exact Or.inr (Or.inr (Decidable.not_not.mp hb48)))) h hm hf
        · first | refine jm_aload_n d_M_pair_33 rfl ?_ | refine jm_aload_nN d_M_pair_33 rfl ?_
          refine jm_iload_n d_M_pair_34 rfl ?_
          refine jm_iload_n d_M_pair_35 rfl ?_
          refine mr_callp (As := [_, _]) d_M_pair_36 l_M_149 iw_M_pairOf ew_M_pairOf nv_M_pairOf rfl (Nat.le_of_ble_eq_true rfl) (by omega : 0 + 1 ≤ _) (k_M_pairOf hp h12 _ _) hm ?_
          refine jm_if_ge 51 d_M_pair_39 (by decide) (fun hb39 => ?_) (fun hb39 => ?_)
          · refine jm_iconstL (v := 2) d_M_pair_51 (by decide) ?_
            refine jm_goto 56 d_M_pair_52 (by decide) ?_
            exact J _ (thF_2 (fun q => by rcases q with q | q | q; exact q hb6; exact q hb14; exact hb19 q) (by first | exact Or.inl hb30 | exact Or.inr (Or.inl hb39) | exact Or.inr (Or.inr (Decidable.not_not.mp hb48)))) h hm hf
          · first | refine jm_aload_n d_M_pair_42 rfl ?_ | refine jm_aload_nN d_M_pair_42 rfl ?_
            refine mr_geti d_M_pair_43 f_M_146 hm (by decide) rfl ?_
            refine jm_bipushL (v := 12) d_M_pair_46 (by decide) ?_
            refine jm_icmp_ne 55 d_M_pair_48 (by decide) (fun hb48 => ?_) (fun hb48 => ?_)
            · refine jm_iconstL (v := 0) d_M_pair_55 (by decide) ?_
              exact J _ (thF_3 (fun q => by rcases q with q | q | q; exact q hb6; exact q hb14; exact hb19 q) (fun q => by rcases q with q | q | q; exact hb30 q; exact hb39 q; exact hb48 q)) h hm hf
            · refine jm_iconstL (v := 2) d_M_pair_51 (by decide) ?_
              refine jm_goto 56 d_M_pair_52 (by decide) ?_
              exact J _ (thF_2 (fun q => by rcases q with q | q | q; exact q hb6; exact q hb14; exact hb19 q) (by first | exact Or.inl hb30 | exact Or.inr (Or.inl hb39) | exact Or.inr (Or.inr (Decidable.not_not.mp hb48)))) h hm hf
      · refine jm_iconstL (v := 1) d_M_pair_22 (by decide) ?_
        refine jm_goto 56 d_M_pair_23 (by decide) ?_
        exact J _ (thF_1 (by first | exact Or.inl hb6 | exact Or.inr (Or.inl hb14) | exact Or.inr (Or.inr (Decidable.not_not.mp hb19)))) h hm hf
end
