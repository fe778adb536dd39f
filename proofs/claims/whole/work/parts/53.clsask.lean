/-! THE CLASS: what is asked of it, small. Written by wip/whole/gen/p53.py -/
section
variable {Γ : jm_G} {d x : Nat} {L sz : Nat → Nat → Nat} {C : mS} {h : jm_H} {ρ : Nat → Nat}
abbrev isAgC (C : mS) (a : Int32) : Prop := 0 ≤ a ∧ a < C 1 0
abbrev isLtC (C : mS) (a : Int32) : Prop := 0 ≤ a ∧ a < C 34 0
abbrev isVaC (C : mS) (a v : Int32) : Prop := isAgC C a ∧ 0 ≤ v ∧ v < C 3 a.toNatClampNeg
theorem agC_ix {n : Nat} (hn : C 1 0 = nI n) (h8 : n ≤ 8) {a : Int32} (ha : isAgC C a) : ∃ k, k < n ∧ a = nI k := by
  obtain ⟨h1, h2⟩ := ha
  rw [hn] at h2
  rcases pk_ix a (n := n) (by omega) with q | q | q
  · exact absurd h1 (Int32.not_le.mpr q)
  · exact absurd h2 (Int32.not_lt.mpr q)
  · exact q
theorem ltC_ix {n : Nat} (hn : C 34 0 = nI n) (h8 : n ≤ 20) {a : Int32} (ha : isLtC C a) : ∃ k, k < n ∧ a = nI k := by
  obtain ⟨h1, h2⟩ := ha
  rw [hn] at h2
  rcases pk_ix a (n := n) (by omega) with q | q | q
  · exact absurd h1 (Int32.not_le.mpr q)
  · exact absurd h2 (Int32.not_lt.mpr q)
  · exact q
theorem k_B_isAgent (a : Int32) : cA0 Γ m_B_isAgent d x [.ref x, .int a] L sz C (some (.int (if isAgC C a then 1 else 0))) := by
  intro h ρ hc
  refine jm_entry (by decide +kernel) (List.forall_mem_cons.mpr ⟨rfl, List.forall_mem_cons.mpr ⟨rfl, fun _ h => nomatch h⟩⟩) (Nat.le_of_ble_eq_true rfl) ?_
  show jm_W _ _ _ _ _ _ 0 [some (.ref x), some (.int a)] [] _
  refine jm_iload_n d_B_isAgent_0 rfl ?_
  refine jm_if_lt 16 d_B_isAgent_1 (by decide) (fun hb1 => ?_) (fun hb1 => ?_)
  · refine jm_iconstL (v := 0) d_B_isAgent_16 (by decide) ?_
    exact jm_zret d_B_isAgent_17 rfl rfl ⟨rfl, by rw [if_neg (show ¬ isAgC C a from fun q => absurd q.1 (Int32.not_le.mpr hb1))]⟩
  · refine jm_iload_n d_B_isAgent_4 rfl ?_
    refine jm_aload_n d_B_isAgent_5 rfl ?_
    refine cr_get 1 0 d_B_isAgent_6 f_B_42 hc rfl rfl rfl rfl (v := .int (C 1 0)) rfl ?_
    refine jm_icmp_ge 16 d_B_isAgent_9 (by decide) (fun hb9 => ?_) (fun hb9 => ?_)
    · refine jm_iconstL (v := 0) d_B_isAgent_16 (by decide) ?_
      exact jm_zret d_B_isAgent_17 rfl rfl ⟨rfl, by rw [if_neg (show ¬ isAgC C a from fun q => absurd q.2 (Int32.not_lt.mpr hb9))]⟩
    · refine jm_iconstL (v := 1) d_B_isAgent_12 (by decide) ?_
      refine jm_goto 17 d_B_isAgent_13 (by decide) ?_
      exact jm_zret d_B_isAgent_17 rfl rfl ⟨rfl, by rw [if_pos (show isAgC C a from ⟨Int32.not_lt.mp hb1, Int32.not_le.mp hb9⟩)]⟩
theorem k_B_isLetter (a : Int32) : cA0 Γ m_B_isLetter d x [.ref x, .int a] L sz C (some (.int (if isLtC C a then 1 else 0))) := by
  intro h ρ hc
  refine jm_entry (by decide +kernel) (List.forall_mem_cons.mpr ⟨rfl, List.forall_mem_cons.mpr ⟨rfl, fun _ h => nomatch h⟩⟩) (Nat.le_of_ble_eq_true rfl) ?_
  show jm_W _ _ _ _ _ _ 0 [some (.ref x), some (.int a)] [] _
  refine jm_iload_n d_B_isLetter_0 rfl ?_
  refine jm_if_lt 16 d_B_isLetter_1 (by decide) (fun hb1 => ?_) (fun hb1 => ?_)
  · refine jm_iconstL (v := 0) d_B_isLetter_16 (by decide) ?_
    exact jm_zret d_B_isLetter_17 rfl rfl ⟨rfl, by rw [if_neg (show ¬ isLtC C a from fun q => absurd q.1 (Int32.not_le.mpr hb1))]⟩
  · refine jm_iload_n d_B_isLetter_4 rfl ?_
    refine jm_aload_n d_B_isLetter_5 rfl ?_
    refine cr_get 34 0 d_B_isLetter_6 f_B_139 hc rfl rfl rfl rfl (v := .int (C 34 0)) rfl ?_
    refine jm_icmp_ge 16 d_B_isLetter_9 (by decide) (fun hb9 => ?_) (fun hb9 => ?_)
    · refine jm_iconstL (v := 0) d_B_isLetter_16 (by decide) ?_
      exact jm_zret d_B_isLetter_17 rfl rfl ⟨rfl, by rw [if_neg (show ¬ isLtC C a from fun q => absurd q.2 (Int32.not_lt.mpr hb9))]⟩
    · refine jm_iconstL (v := 1) d_B_isLetter_12 (by decide) ?_
      refine jm_goto 17 d_B_isLetter_13 (by decide) ?_
      exact jm_zret d_B_isLetter_17 rfl rfl ⟨rfl, by rw [if_pos (show isLtC C a from ⟨Int32.not_lt.mp hb1, Int32.not_le.mp hb9⟩)]⟩
theorem k_B_isValue {n : Nat} (hd : 1 ≤ d) (hn : C 1 0 = nI n) (hs : sz 1 0 = n) (h8 : n ≤ 8) (a v : Int32) : cA0 Γ m_B_isValue d x [.ref x, .int a, .int v] L sz C (some (.int (if isVaC C a v then 1 else 0))) := by
  intro h ρ hc
  refine jm_entry (by decide +kernel) (List.forall_mem_cons.mpr ⟨rfl, List.forall_mem_cons.mpr ⟨rfl, List.forall_mem_cons.mpr ⟨rfl, fun _ h => nomatch h⟩⟩⟩) (Nat.le_of_ble_eq_true rfl) ?_
  show jm_W _ _ _ _ _ _ 0 [some (.ref x), some (.int a), some (.int v)] [] _
  refine jm_aload_n d_B_isValue_0 rfl ?_
  refine jm_iload_n d_B_isValue_1 rfl ?_
  refine cr_callp (r := ("BargainTree", jm_F0, 9)) (As := [_]) d_B_isValue_2 l_B_69 iw_B_isAgent ew_B_isAgent rfl nv_B_isAgent rfl (hc.1 1 0 rfl).1 (Nat.le_of_ble_eq_true rfl) (by omega : 0 + 1 ≤ _) (k_B_isAgent _) hc ?_
  first | refine jm_bz_eq 29 d_B_isValue_5 (by decide) (fun hb5 => ?_) (fun hb5 => ?_) | refine jm_if_eq 29 d_B_isValue_5 (by decide) (fun hb5 => ?_) (fun hb5 => ?_)
  · refine jm_iconstL (v := 0) d_B_isValue_29 (by decide) ?_
    exact jm_zret d_B_isValue_30 rfl rfl ⟨rfl, by rw [if_neg (fun q : isVaC C a v => hb5 q.1)]⟩
  · obtain ⟨k, hk, rfl⟩ := agC_ix hn h8 hb5
    have ec := nI_clamp (show k < 2 ^ 31 by omega)
    refine jm_iload_n d_B_isValue_8 rfl ?_
    refine jm_if_lt 29 d_B_isValue_9 (by decide) (fun hb9 => ?_) (fun hb9 => ?_)
    · refine jm_iconstL (v := 0) d_B_isValue_29 (by decide) ?_
      exact jm_zret d_B_isValue_30 rfl rfl ⟨rfl, by rw [if_neg (fun q : isVaC C (nI k) v => absurd q.2.1 (Int32.not_le.mpr hb9))]⟩
    · refine jm_iload_n d_B_isValue_12 rfl ?_
      refine jm_aload_n d_B_isValue_13 rfl ?_
      refine cr_get 78 0 d_B_isValue_14 f_B_11 hc rfl rfl rfl rfl (v := .ref (L 0 0)) rfl ?_
      refine jm_iload_n d_B_isValue_17 rfl ?_
      refine cr_ald 3 70 k (e := k) d_B_isValue_18 (by decide) rfl hc (show k < sz 1 0 by omega) rfl rfl rfl rfl (by have := hc.B.1; omega) (by decide) (v := .ref (L 1 k)) rfl ?_
      refine cr_getG 3 k d_B_isValue_19 f_B_245 hc (show k < sz 1 0 by omega) rfl rfl rfl (v := .int (C 3 k)) rfl ?_
      refine jm_icmp_ge 29 d_B_isValue_22 (by decide) (fun hb22 => ?_) (fun hb22 => ?_)
      · refine jm_iconstL (v := 0) d_B_isValue_29 (by decide) ?_
        exact jm_zret d_B_isValue_30 rfl rfl ⟨rfl, by rw [if_neg (fun q : isVaC C (nI k) v => absurd q.2.2 (Int32.not_lt.mpr (by rw [ec]; exact hb22)))]⟩
      · refine jm_iconstL (v := 1) d_B_isValue_25 (by decide) ?_
        refine jm_goto 30 d_B_isValue_26 (by decide) ?_
        exact jm_zret d_B_isValue_30 rfl rfl ⟨rfl, by rw [if_pos (show isVaC C (nI k) v from ⟨hb5, Int32.not_lt.mp hb9, by rw [ec]; exact Int32.not_le.mp hb22⟩)]⟩
theorem k_B_tables  : cA0 Γ m_B_tables d x [.ref x] L sz C (some (.int (C 27 0))) := by
  intro h ρ hc
  refine jm_entry (by decide +kernel) (List.forall_mem_cons.mpr ⟨rfl, fun _ h => nomatch h⟩) (Nat.le_of_ble_eq_true rfl) ?_
  show jm_W _ _ _ _ _ _ 0 [some (.ref x)] [] _
  refine jm_aload_n d_B_tables_0 rfl ?_
  refine cr_get 27 0 d_B_tables_1 f_B_221 hc rfl rfl rfl rfl (v := .int (C 27 0)) rfl ?_
  exact jm_iret d_B_tables_4 rfl ⟨rfl, rfl⟩
theorem k_B_parent {n : Nat} (hd : 1 ≤ d) (hn : C 1 0 = nI n) (hs : sz 1 0 = n) (h8 : n ≤ 8) (a : Int32) : cA0 Γ m_B_parent d x [.ref x, .int a] L sz C (some (.int (if isAgC C a then C 16 a.toNatClampNeg else -1))) := by
  intro h ρ hc
  refine jm_entry (by decide +kernel) (List.forall_mem_cons.mpr ⟨rfl, List.forall_mem_cons.mpr ⟨rfl, fun _ h => nomatch h⟩⟩) (Nat.le_of_ble_eq_true rfl) ?_
  show jm_W _ _ _ _ _ _ 0 [some (.ref x), some (.int a)] [] _
  refine jm_aload_n d_B_parent_0 rfl ?_
  refine jm_iload_n d_B_parent_1 rfl ?_
  refine cr_callp (r := ("BargainTree", jm_F0, 9)) (As := [_]) d_B_parent_2 l_B_69 iw_B_isAgent ew_B_isAgent rfl nv_B_isAgent rfl (hc.1 1 0 rfl).1 (Nat.le_of_ble_eq_true rfl) (by omega : 0 + 1 ≤ _) (k_B_isAgent _) hc ?_
  first | refine jm_bz_eq 20 d_B_parent_5 (by decide) (fun hb5 => ?_) (fun hb5 => ?_) | refine jm_if_eq 20 d_B_parent_5 (by decide) (fun hb5 => ?_) (fun hb5 => ?_)
  · refine jm_iconstL (v := -1) d_B_parent_20 (by decide) ?_
    exact jm_iret d_B_parent_21 rfl ⟨rfl, by rw [if_neg hb5]⟩
  · have hb := hb5
    obtain ⟨k, hk, rfl⟩ := agC_ix hn h8 hb5
    have ec := nI_clamp (show k < 2 ^ 31 by omega)
    refine jm_aload_n d_B_parent_8 rfl ?_
    refine cr_get 78 0 d_B_parent_9 f_B_11 hc rfl rfl rfl rfl (v := .ref (L 0 0)) rfl ?_
    refine jm_iload_n d_B_parent_12 rfl ?_
    refine cr_ald 3 70 k (e := k) d_B_parent_13 (by decide) rfl hc (show k < sz 1 0 by omega) rfl rfl rfl rfl (by have := hc.B.1; omega) (by decide) (v := .ref (L 1 k)) rfl ?_
    refine cr_get 16 k d_B_parent_14 f_B_239 hc (show k < sz 1 0 by omega) rfl rfl rfl (v := .int (C 16 k)) rfl ?_
    refine jm_goto 21 d_B_parent_17 (by decide) ?_
    exact jm_iret d_B_parent_21 rfl ⟨rfl, by rw [if_pos hb, ec]⟩
theorem k_P_foundNone {p : Nat} (hp : p < 8) (hz : sz 5 p = 1) : cA0 Γ m_P_foundNone d x [.ref (L 5 p)] L sz C (some (.int (if C 65 p = C 12 p then 1 else 0))) := by
  intro h ρ hc
  refine jm_entry (by decide +kernel) (List.forall_mem_cons.mpr ⟨rfl, fun _ h => nomatch h⟩) (Nat.le_of_ble_eq_true rfl) ?_
  show jm_W _ _ _ _ _ _ 0 [some (.ref (L 5 p))] [] _
  refine jm_aload_n d_P_foundNone_0 rfl ?_
  refine cr_get 65 p d_P_foundNone_1 f_P_19 hc (show p < 8 ∧ sz 5 p = 1 from ⟨by omega, hz⟩) rfl rfl rfl (v := .int (C 65 p)) rfl ?_
  refine jm_aload_n d_P_foundNone_4 rfl ?_
  refine cr_get 12 p d_P_foundNone_5 f_P_9 hc (show p < 8 ∧ sz 5 p = 1 from ⟨by omega, hz⟩) rfl rfl rfl (v := .int (C 12 p)) rfl ?_
  refine jm_icmp_ne 15 d_P_foundNone_8 (by decide) (fun hb8 => ?_) (fun hb8 => ?_)
  · refine jm_iconstL (v := nI 0) d_P_foundNone_15 (by decide) ?_
    exact jm_zret d_P_foundNone_16 rfl (by first | rfl | (split <;> rfl)) ⟨rfl, by first | rw [if_pos (Decidable.not_not.mp hb8)]; rfl | rw [if_neg hb8]; rfl⟩
  · refine jm_iconstL (v := nI 1) d_P_foundNone_11 (by decide) ?_
    refine jm_goto 16 d_P_foundNone_12 (by decide) ?_
    exact jm_zret d_P_foundNone_16 rfl (by first | rfl | (split <;> rfl)) ⟨rfl, by first | rw [if_pos (Decidable.not_not.mp hb8)]; rfl | rw [if_neg hb8]; rfl⟩
theorem k_Q_place {p : Nat} (hp : p < sz 6 0) (a v w : Int32) : cA0 Γ m_Q_place d x [.ref (L 6 p), .int a, .int v, .int w] L sz C (some (.int (if a = C 62 p then v * 4 + w else w * 4 + v))) := by
  intro h ρ hc
  refine jm_entry (by decide +kernel) (List.forall_mem_cons.mpr ⟨rfl, List.forall_mem_cons.mpr ⟨rfl, List.forall_mem_cons.mpr ⟨rfl, List.forall_mem_cons.mpr ⟨rfl, fun _ h => nomatch h⟩⟩⟩⟩) (Nat.le_of_ble_eq_true rfl) ?_
  show jm_W _ _ _ _ _ _ 0 [some (.ref (L 6 p)), some (.int a), some (.int v), some (.int w)] [] _
  refine jm_iload_n d_Q_place_0 rfl ?_
  refine jm_aload_n d_Q_place_1 rfl ?_
  refine cr_get 62 p d_Q_place_2 f_Q_15 hc (show p < sz 6 0 by omega) rfl rfl rfl (v := .int (C 62 p)) rfl ?_
  refine jm_icmp_ne 16 d_Q_place_5 (by decide) (fun hb5 => ?_) (fun hb5 => ?_)
  · refine jm_iload_n d_Q_place_16 rfl ?_
    refine jm_iconstL (v := nI 4) d_Q_place_17 (by decide) ?_
    refine jm_imul d_Q_place_18 ?_
    refine jm_iload_n d_Q_place_19 rfl ?_
    refine jm_iadd d_Q_place_20 ?_
    exact jm_iret d_Q_place_21 rfl ⟨rfl, by first | rw [if_pos (Decidable.not_not.mp hb5)]; rfl | rw [if_neg hb5]; rfl⟩
  · refine jm_iload_n d_Q_place_8 rfl ?_
    refine jm_iconstL (v := nI 4) d_Q_place_9 (by decide) ?_
    refine jm_imul d_Q_place_10 ?_
    refine jm_iload_n d_Q_place_11 rfl ?_
    refine jm_iadd d_Q_place_12 ?_
    refine jm_goto 21 d_Q_place_13 (by decide) ?_
    exact jm_iret d_Q_place_21 rfl ⟨rfl, by first | rw [if_pos (Decidable.not_not.mp hb5)]; rfl | rw [if_neg hb5]; rfl⟩
abbrev upC (C : mS) (a p : Nat) : Prop := (C 62 p = nI a ∧ cI (C 17 a) (C 63 p)) ∨ (C 63 p = nI a ∧ cI (C 17 a) (C 62 p))
theorem k_Q_joinsUpwards {p a : Nat} (hd : 1 ≤ d) (hp : p < sz 6 0) (ha : a < sz 1 0) : cA0 Γ m_Q_joinsUpwards d x [.ref (L 6 p), .ref (L 1 a)] L sz C (some (.int (if upC C a p then 1 else 0))) := by
  intro h ρ hc
  refine jm_entry (by decide +kernel) (List.forall_mem_cons.mpr ⟨rfl, List.forall_mem_cons.mpr ⟨rfl, fun _ h => nomatch h⟩⟩) (Nat.le_of_ble_eq_true rfl) ?_
  show jm_W _ _ _ _ _ _ 0 [some (.ref (L 6 p)), some (.ref (L 1 a))] [] _
  refine jm_aload_n d_Q_joinsUpwards_0 rfl ?_
  refine cr_get 62 p d_Q_joinsUpwards_1 f_Q_15 hc (show p < sz 6 0 by omega) rfl rfl rfl (v := .int (C 62 p)) rfl ?_
  refine jm_aload_n d_Q_joinsUpwards_4 rfl ?_
  refine cr_getG 71 a d_Q_joinsUpwards_5 f_Q_22 hc (show a < sz 1 0 by omega) rfl rfl rfl (v := .int (nI a)) rfl ?_
  refine jm_icmp_ne 25 d_Q_joinsUpwards_8 (by decide) (fun hb8 => ?_) (fun hb8 => ?_)
  · refine jm_aload_n d_Q_joinsUpwards_25 rfl ?_
    refine cr_get 63 p d_Q_joinsUpwards_26 f_Q_19 hc (show p < sz 6 0 by omega) rfl rfl rfl (v := .int (C 63 p)) rfl ?_
    refine jm_aload_n d_Q_joinsUpwards_29 rfl ?_
    refine cr_getG 71 a d_Q_joinsUpwards_30 f_Q_22 hc (show a < sz 1 0 by omega) rfl rfl rfl (v := .int (nI a)) rfl ?_
    refine jm_icmp_ne 54 d_Q_joinsUpwards_33 (by decide) (fun hb33 => ?_) (fun hb33 => ?_)
    · refine jm_iconstL (v := 0) d_Q_joinsUpwards_54 (by decide) ?_
      exact jm_zret d_Q_joinsUpwards_55 rfl rfl ⟨rfl, by rw [if_neg (show ¬ upC C a p from fun q => by rcases q with ⟨q1, q2⟩ | ⟨q1, q2⟩; (first | exact hb8 q1 | exact hb22 q2); (first | exact hb33 q1 | exact hb47 q2))]⟩
    · refine jm_aload_n d_Q_joinsUpwards_36 rfl ?_
      refine cr_get 17 a d_Q_joinsUpwards_37 f_Q_27 hc (show a < sz 1 0 by omega) rfl rfl rfl (v := .int (C 17 a)) rfl ?_
      refine jm_aload_n d_Q_joinsUpwards_40 rfl ?_
      refine cr_get 62 p d_Q_joinsUpwards_41 f_Q_15 hc (show p < sz 6 0 by omega) rfl rfl rfl (v := .int (C 62 p)) rfl ?_
      refine jm_callSNp (As := [_, _]) d_Q_joinsUpwards_44 l_Q_30 sw_B_contains nv_B_contains rfl (Nat.le_of_ble_eq_true rfl) (by omega : 0 + 1 ≤ _) (k_B_contains _ _) ?_
      first | refine jm_bz_eq 54 d_Q_joinsUpwards_47 (by decide) (fun hb47 => ?_) (fun hb47 => ?_) | refine jm_if_eq 54 d_Q_joinsUpwards_47 (by decide) (fun hb47 => ?_) (fun hb47 => ?_)
      · refine jm_iconstL (v := 0) d_Q_joinsUpwards_54 (by decide) ?_
        exact jm_zret d_Q_joinsUpwards_55 rfl rfl ⟨rfl, by rw [if_neg (show ¬ upC C a p from fun q => by rcases q with ⟨q1, q2⟩ | ⟨q1, q2⟩; (first | exact hb8 q1 | exact hb22 q2); (first | exact hb33 q1 | exact hb47 q2))]⟩
      · refine jm_iconstL (v := 1) d_Q_joinsUpwards_50 (by decide) ?_
        refine jm_goto 55 d_Q_joinsUpwards_51 (by decide) ?_
        first | exact jm_zret d_Q_joinsUpwards_55 rfl rfl ⟨rfl, by rw [if_pos (show upC C a p from Or.inl ⟨Decidable.not_not.mp hb8, hb22⟩)]⟩ | exact jm_zret d_Q_joinsUpwards_55 rfl rfl ⟨rfl, by rw [if_pos (show upC C a p from Or.inr ⟨Decidable.not_not.mp hb33, hb47⟩)]⟩
  · refine jm_aload_n d_Q_joinsUpwards_11 rfl ?_
    refine cr_get 17 a d_Q_joinsUpwards_12 f_Q_27 hc (show a < sz 1 0 by omega) rfl rfl rfl (v := .int (C 17 a)) rfl ?_
    refine jm_aload_n d_Q_joinsUpwards_15 rfl ?_
    refine cr_get 63 p d_Q_joinsUpwards_16 f_Q_19 hc (show p < sz 6 0 by omega) rfl rfl rfl (v := .int (C 63 p)) rfl ?_
    refine jm_callSNp (As := [_, _]) d_Q_joinsUpwards_19 l_Q_30 sw_B_contains nv_B_contains rfl (Nat.le_of_ble_eq_true rfl) (by omega : 0 + 1 ≤ _) (k_B_contains _ _) ?_
    first | refine jm_bz_ne 50 d_Q_joinsUpwards_22 (by decide) (fun hb22 => ?_) (fun hb22 => ?_) | refine jm_if_ne 50 d_Q_joinsUpwards_22 (by decide) (fun hb22 => ?_) (fun hb22 => ?_)
    · refine jm_iconstL (v := 1) d_Q_joinsUpwards_50 (by decide) ?_
      refine jm_goto 55 d_Q_joinsUpwards_51 (by decide) ?_
      first | exact jm_zret d_Q_joinsUpwards_55 rfl rfl ⟨rfl, by rw [if_pos (show upC C a p from Or.inl ⟨Decidable.not_not.mp hb8, hb22⟩)]⟩ | exact jm_zret d_Q_joinsUpwards_55 rfl rfl ⟨rfl, by rw [if_pos (show upC C a p from Or.inr ⟨Decidable.not_not.mp hb33, hb47⟩)]⟩
    · refine jm_aload_n d_Q_joinsUpwards_25 rfl ?_
      refine cr_get 63 p d_Q_joinsUpwards_26 f_Q_19 hc (show p < sz 6 0 by omega) rfl rfl rfl (v := .int (C 63 p)) rfl ?_
      refine jm_aload_n d_Q_joinsUpwards_29 rfl ?_
      refine cr_getG 71 a d_Q_joinsUpwards_30 f_Q_22 hc (show a < sz 1 0 by omega) rfl rfl rfl (v := .int (nI a)) rfl ?_
      refine jm_icmp_ne 54 d_Q_joinsUpwards_33 (by decide) (fun hb33 => ?_) (fun hb33 => ?_)
      · refine jm_iconstL (v := 0) d_Q_joinsUpwards_54 (by decide) ?_
        exact jm_zret d_Q_joinsUpwards_55 rfl rfl ⟨rfl, by rw [if_neg (show ¬ upC C a p from fun q => by rcases q with ⟨q1, q2⟩ | ⟨q1, q2⟩; (first | exact hb8 q1 | exact hb22 q2); (first | exact hb33 q1 | exact hb47 q2))]⟩
      · refine jm_aload_n d_Q_joinsUpwards_36 rfl ?_
        refine cr_get 17 a d_Q_joinsUpwards_37 f_Q_27 hc (show a < sz 1 0 by omega) rfl rfl rfl (v := .int (C 17 a)) rfl ?_
        refine jm_aload_n d_Q_joinsUpwards_40 rfl ?_
        refine cr_get 62 p d_Q_joinsUpwards_41 f_Q_15 hc (show p < sz 6 0 by omega) rfl rfl rfl (v := .int (C 62 p)) rfl ?_
        refine jm_callSNp (As := [_, _]) d_Q_joinsUpwards_44 l_Q_30 sw_B_contains nv_B_contains rfl (Nat.le_of_ble_eq_true rfl) (by omega : 0 + 1 ≤ _) (k_B_contains _ _) ?_
        first | refine jm_bz_eq 54 d_Q_joinsUpwards_47 (by decide) (fun hb47 => ?_) (fun hb47 => ?_) | refine jm_if_eq 54 d_Q_joinsUpwards_47 (by decide) (fun hb47 => ?_) (fun hb47 => ?_)
        · refine jm_iconstL (v := 0) d_Q_joinsUpwards_54 (by decide) ?_
          exact jm_zret d_Q_joinsUpwards_55 rfl rfl ⟨rfl, by rw [if_neg (show ¬ upC C a p from fun q => by rcases q with ⟨q1, q2⟩ | ⟨q1, q2⟩; (first | exact hb8 q1 | exact hb22 q2); (first | exact hb33 q1 | exact hb47 q2))]⟩
        · refine jm_iconstL (v := 1) d_Q_joinsUpwards_50 (by decide) ?_
          refine jm_goto 55 d_Q_joinsUpwards_51 (by decide) ?_
          first | exact jm_zret d_Q_joinsUpwards_55 rfl rfl ⟨rfl, by rw [if_pos (show upC C a p from Or.inl ⟨Decidable.not_not.mp hb8, hb22⟩)]⟩ | exact jm_zret d_Q_joinsUpwards_55 rfl rfl ⟨rfl, by rw [if_pos (show upC C a p from Or.inr ⟨Decidable.not_not.mp hb33, hb47⟩)]⟩
end
