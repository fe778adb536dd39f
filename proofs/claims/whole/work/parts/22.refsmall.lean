/-! THE REFERENCE: small methods. Written by wip/whole/gen/p22.py -/
section
variable {Γ : jm_G} {d m : Nat} {ar : Nat → Nat} {S : mS} {h : jm_H}
theorem k_M_has (x a : Int32) : jm_A Γ m_M_has d [.int x, .int a] h (some (.int (if (x >>> (a &&& 31)) &&& 1 = 1 then 1 else 0))) := by
  refine jm_entry (by decide +kernel) (List.forall_mem_cons.mpr ⟨rfl, List.forall_mem_cons.mpr ⟨rfl, fun _ h => nomatch h⟩⟩) (Nat.le_of_ble_eq_true rfl) ?_
  show jm_W _ _ _ _ _ _ 0 [some (.int x), some (.int a)] [] _
  refine jm_iload_n d_M_has_0 rfl ?_
  refine jm_iload_n d_M_has_1 rfl ?_
  refine jm_ishr d_M_has_2 ?_
  refine jm_iconstL (v := 1) d_M_has_3 (by decide) ?_
  refine jm_iand d_M_has_4 ?_
  refine jm_iconstL (v := 1) d_M_has_5 (by decide) ?_
  refine jm_icmp_ne 13 d_M_has_6 (by decide) (fun hb6 => ?_) (fun hb6 => ?_)
  · refine jm_iconstL (v := 0) d_M_has_13 (by decide) ?_
    exact jm_zret d_M_has_14 rfl (by first | rfl | (split <;> rfl)) ⟨rfl, by first | rfl | (simp_all; done) | (split <;> first | rfl | (exfalso; simp_all; done))⟩
  · refine jm_iconstL (v := 1) d_M_has_9 (by decide) ?_
    refine jm_goto 14 d_M_has_10 (by decide) ?_
    exact jm_zret d_M_has_14 rfl (by first | rfl | (split <;> rfl)) ⟨rfl, by first | rfl | (simp_all; done) | (split <;> first | rfl | (exfalso; simp_all; done))⟩
theorem k_B_contains (x a : Int32) : jm_A Γ m_B_contains d [.int x, .int a] h (some (.int (if (x >>> (a &&& 31)) &&& 1 = 1 then 1 else 0))) := by
  refine jm_entry (by decide +kernel) (List.forall_mem_cons.mpr ⟨rfl, List.forall_mem_cons.mpr ⟨rfl, fun _ h => nomatch h⟩⟩) (Nat.le_of_ble_eq_true rfl) ?_
  show jm_W _ _ _ _ _ _ 0 [some (.int x), some (.int a)] [] _
  refine jm_iload_n d_B_contains_0 rfl ?_
  refine jm_iload_n d_B_contains_1 rfl ?_
  refine jm_ishr d_B_contains_2 ?_
  refine jm_iconstL (v := 1) d_B_contains_3 (by decide) ?_
  refine jm_iand d_B_contains_4 ?_
  refine jm_iconstL (v := 1) d_B_contains_5 (by decide) ?_
  refine jm_icmp_ne 13 d_B_contains_6 (by decide) (fun hb6 => ?_) (fun hb6 => ?_)
  · refine jm_iconstL (v := 0) d_B_contains_13 (by decide) ?_
    exact jm_zret d_B_contains_14 rfl (by first | rfl | (split <;> rfl)) ⟨rfl, by first | rfl | (simp_all; done) | (split <;> first | rfl | (exfalso; simp_all; done))⟩
  · refine jm_iconstL (v := 1) d_B_contains_9 (by decide) ?_
    refine jm_goto 14 d_B_contains_10 (by decide) ?_
    exact jm_zret d_B_contains_14 rfl (by first | rfl | (split <;> rfl)) ⟨rfl, by first | rfl | (simp_all; done) | (split <;> first | rfl | (exfalso; simp_all; done))⟩
theorem k_M_thrown  : mA Γ m_M_thrown d m ar [] S (some (.int (S 0 0))) := by
  intro h hm
  refine jm_entry (by decide +kernel) (List.forall_mem_cons.mpr ⟨rfl, fun _ h => nomatch h⟩) (Nat.le_of_ble_eq_true rfl) ?_
  show jm_W _ _ _ _ _ _ 0 [some (.ref m)] [] _
  first | refine jm_aload_n d_M_thrown_0 rfl ?_ | refine jm_aload_nN d_M_thrown_0 rfl ?_
  refine mr_geti d_M_thrown_1 f_M_116 hm (by decide) rfl ?_
  exact jm_iret d_M_thrown_4 rfl ⟨rfl, rfl⟩
theorem k_M_isAgent (hd : 1 ≤ d) (a : Int32) : mA Γ m_M_isAgent d m ar [.int a] S (some (.int (if 0 ≤ a ∧ a ≤ S 1 0 - 1 then 1 else 0))) := by
  intro h hm
  refine jm_entry (by decide +kernel) (List.forall_mem_cons.mpr ⟨rfl, List.forall_mem_cons.mpr ⟨rfl, fun _ h => nomatch h⟩⟩) (Nat.le_of_ble_eq_true rfl) ?_
  show jm_W _ _ _ _ _ _ 0 [some (.ref m), some (.int a)] [] _
  refine jm_iload_n d_M_isAgent_0 rfl ?_
  refine jm_iconstL (v := 0) d_M_isAgent_1 (by decide) ?_
  first | refine jm_aload_n d_M_isAgent_2 rfl ?_ | refine jm_aload_nN d_M_isAgent_2 rfl ?_
  refine mr_geti d_M_isAgent_3 f_M_124 hm (by decide) rfl ?_
  refine jm_iconstL (v := 1) d_M_isAgent_6 (by decide) ?_
  refine jm_isub d_M_isAgent_7 ?_
  refine jm_callSp (As := [_, _, _]) d_M_isAgent_8 l_M_127 sw_M_within nv_M_within rfl (Nat.le_of_ble_eq_true rfl) (by omega : 0 + 1 ≤ _) (k_M_within _ _ _) ?_
  exact jm_zret d_M_isAgent_11 rfl (by first | rfl | (split <;> rfl)) ⟨rfl, rfl⟩
theorem k_M_isCost (hd : 1 ≤ d) (c : Int32) : jm_A Γ m_M_isCost d [.int c] h (some (.int (if c = -2 ∨ (0 ≤ c ∧ c ≤ 999) then 1 else 0))) := by
  refine jm_entry (by decide +kernel) (List.forall_mem_cons.mpr ⟨rfl, fun _ h => nomatch h⟩) (Nat.le_of_ble_eq_true rfl) ?_
  show jm_W _ _ _ _ _ _ 0 [some (.int c)] [] _
  refine jm_iload_n d_M_isCost_0 rfl ?_
  refine jm_iconstL (v := 0) d_M_isCost_1 (by decide) ?_
  refine jm_sipushL (v := 999) d_M_isCost_2 (by decide) ?_
  refine jm_callSp (As := [_, _, _]) d_M_isCost_5 l_M_127 sw_M_within nv_M_within rfl (Nat.le_of_ble_eq_true rfl) (by omega : 0 + 1 ≤ _) (k_M_within _ _ _) ?_
  refine jm_if_ne 17 d_M_isCost_8 (by decide) (fun hb8 => ?_) (fun hb8 => ?_)
  · refine jm_iconstL (v := 1) d_M_isCost_17 (by decide) ?_
    refine jm_goto 22 d_M_isCost_18 (by decide) ?_
    exact jm_zret d_M_isCost_22 rfl (by first | rfl | (split <;> rfl)) ⟨rfl, by simp_all⟩
  · refine jm_iload_n d_M_isCost_11 rfl ?_
    refine jm_bipushL (v := (-2)) d_M_isCost_12 (by decide) ?_
    refine jm_icmp_ne 21 d_M_isCost_14 (by decide) (fun hb14 => ?_) (fun hb14 => ?_)
    · refine jm_iconstL (v := 0) d_M_isCost_21 (by decide) ?_
      exact jm_zret d_M_isCost_22 rfl (by first | rfl | (split <;> rfl)) ⟨rfl, by simp_all⟩
    · refine jm_iconstL (v := 1) d_M_isCost_17 (by decide) ?_
      refine jm_goto 22 d_M_isCost_18 (by decide) ?_
      exact jm_zret d_M_isCost_22 rfl (by first | rfl | (split <;> rfl)) ⟨rfl, by simp_all⟩
/-- the first pair of a and b, from p on -/
def pairF (S : mS) (a b : Int32) : Nat → Nat → Int32
  | 0, _ => -1
  | k + 1, p => if (S 6 p = a ∧ S 7 p = b) ∨ (S 6 p = b ∧ S 7 p = a) then nI p else pairF S a b k (p + 1)
theorem lp_M_pairOf {rc rs np : Nat} (hnp : S 5 0 = nI np) (h12 : np ≤ 12) (hm : mo h m ar S) (a b : Int32) : ∀ k p, p + k = np → jm_W Γ m_M_pairOf d rc rs (fun oc h' => h' = h ∧ oc = .inl (some (.int (pairF S a b k p)))) 2 [some (.ref m), some (.int a), some (.int b), some (.int (nI p))] [] h := by
  intro k
  induction k with
  | zero =>
    intro p hp
    refine jm_iload_n d_M_pairOf_2 rfl ?_
    first | refine jm_aload_n d_M_pairOf_3 rfl ?_ | refine jm_aload_nN d_M_pairOf_3 rfl ?_
    refine mr_geti d_M_pairOf_4 f_M_146 hm (by decide) rfl ?_
    refine jm_icmp_ge 58 d_M_pairOf_7 (by decide) (fun hb7 => ?_) (fun hb7 => ?_)
    · refine jm_iconstL (v := (-1)) d_M_pairOf_58 (by decide) ?_
      exact jm_iret d_M_pairOf_59 rfl ⟨rfl, rfl⟩
    · exact absurd (by rw [hnp]; exact nI_le (by omega) (by omega)) hb7
  | succ k ih =>
    intro p hp
    refine jm_iload_n d_M_pairOf_2 rfl ?_
    first | refine jm_aload_n d_M_pairOf_3 rfl ?_ | refine jm_aload_nN d_M_pairOf_3 rfl ?_
    refine mr_geti d_M_pairOf_4 f_M_146 hm (by decide) rfl ?_
    refine jm_icmp_ge 58 d_M_pairOf_7 (by decide) (fun hb7 => ?_) (fun hb7 => ?_)
    · rw [hnp] at hb7; exact absurd hb7 (nI_ge (by omega) (by omega))
    · first | refine jm_aload_n d_M_pairOf_10 rfl ?_ | refine jm_aload_nN d_M_pairOf_10 rfl ?_
      refine mr_geta d_M_pairOf_11 f_M_16 hm (by decide) (by decide) ?_
      refine jm_iload_n d_M_pairOf_14 rfl ?_
      refine mr_ld _ d_M_pairOf_15 hm (by decide) (by decide) rfl (vp_in_nI (by show p < 12; omega) (by decide)) ?_
      refine jm_iload_n d_M_pairOf_16 rfl ?_
      refine jm_icmp_ne 30 d_M_pairOf_17 (by decide) (fun hb17 => ?_) (fun hb17 => ?_)
      · first | refine jm_aload_n d_M_pairOf_30 rfl ?_ | refine jm_aload_nN d_M_pairOf_30 rfl ?_
        refine mr_geta d_M_pairOf_31 f_M_16 hm (by decide) (by decide) ?_
        refine jm_iload_n d_M_pairOf_34 rfl ?_
        refine mr_ld _ d_M_pairOf_35 hm (by decide) (by decide) rfl (vp_in_nI (by show p < 12; omega) (by decide)) ?_
        refine jm_iload_n d_M_pairOf_36 rfl ?_
        refine jm_icmp_ne 52 d_M_pairOf_37 (by decide) (fun hb37 => ?_) (fun hb37 => ?_)
        · refine jm_iincL (v := nI (p + 1)) d_M_pairOf_52 rfl (by rw [nI_succ]; rfl) ?_
          refine jm_goto 2 d_M_pairOf_55 (by decide) ?_
          have e9 := ih (p + 1) (by omega)
          rw [show pairF S a b (k + 1) p = pairF S a b k (p + 1) from if_neg (by simp only [nI_clamp (show p < 2 ^ 31 by omega)] at *; intro q9; rcases q9 with ⟨q1, q2⟩ | ⟨q1, q2⟩ <;> simp_all)]
          exact e9
        · first | refine jm_aload_n d_M_pairOf_40 rfl ?_ | refine jm_aload_nN d_M_pairOf_40 rfl ?_
          refine mr_geta d_M_pairOf_41 f_M_19 hm (by decide) (by decide) ?_
          refine jm_iload_n d_M_pairOf_44 rfl ?_
          refine mr_ld _ d_M_pairOf_45 hm (by decide) (by decide) rfl (vp_in_nI (by show p < 12; omega) (by decide)) ?_
          refine jm_iload_n d_M_pairOf_46 rfl ?_
          refine jm_icmp_ne 52 d_M_pairOf_47 (by decide) (fun hb47 => ?_) (fun hb47 => ?_)
          · refine jm_iincL (v := nI (p + 1)) d_M_pairOf_52 rfl (by rw [nI_succ]; rfl) ?_
            refine jm_goto 2 d_M_pairOf_55 (by decide) ?_
            have e9 := ih (p + 1) (by omega)
            rw [show pairF S a b (k + 1) p = pairF S a b k (p + 1) from if_neg (by simp only [nI_clamp (show p < 2 ^ 31 by omega)] at *; intro q9; rcases q9 with ⟨q1, q2⟩ | ⟨q1, q2⟩ <;> simp_all)]
            exact e9
          · refine jm_iload_n d_M_pairOf_50 rfl ?_
            exact jm_iret d_M_pairOf_51 rfl ⟨rfl, by simp only [nI_clamp (show p < 2 ^ 31 by omega)] at *; simp_all [pairF]⟩
      · first | refine jm_aload_n d_M_pairOf_20 rfl ?_ | refine jm_aload_nN d_M_pairOf_20 rfl ?_
        refine mr_geta d_M_pairOf_21 f_M_19 hm (by decide) (by decide) ?_
        refine jm_iload_n d_M_pairOf_24 rfl ?_
        refine mr_ld _ d_M_pairOf_25 hm (by decide) (by decide) rfl (vp_in_nI (by show p < 12; omega) (by decide)) ?_
        refine jm_iload_n d_M_pairOf_26 rfl ?_
        refine jm_icmp_eq 50 d_M_pairOf_27 (by decide) (fun hb27 => ?_) (fun hb27 => ?_)
        · refine jm_iload_n d_M_pairOf_50 rfl ?_
          exact jm_iret d_M_pairOf_51 rfl ⟨rfl, by simp only [nI_clamp (show p < 2 ^ 31 by omega)] at *; simp_all [pairF]⟩
        · first | refine jm_aload_n d_M_pairOf_30 rfl ?_ | refine jm_aload_nN d_M_pairOf_30 rfl ?_
          refine mr_geta d_M_pairOf_31 f_M_16 hm (by decide) (by decide) ?_
          refine jm_iload_n d_M_pairOf_34 rfl ?_
          refine mr_ld _ d_M_pairOf_35 hm (by decide) (by decide) rfl (vp_in_nI (by show p < 12; omega) (by decide)) ?_
          refine jm_iload_n d_M_pairOf_36 rfl ?_
          refine jm_icmp_ne 52 d_M_pairOf_37 (by decide) (fun hb37 => ?_) (fun hb37 => ?_)
          · refine jm_iincL (v := nI (p + 1)) d_M_pairOf_52 rfl (by rw [nI_succ]; rfl) ?_
            refine jm_goto 2 d_M_pairOf_55 (by decide) ?_
            have e9 := ih (p + 1) (by omega)
            rw [show pairF S a b (k + 1) p = pairF S a b k (p + 1) from if_neg (by simp only [nI_clamp (show p < 2 ^ 31 by omega)] at *; intro q9; rcases q9 with ⟨q1, q2⟩ | ⟨q1, q2⟩ <;> simp_all)]
            exact e9
          · first | refine jm_aload_n d_M_pairOf_40 rfl ?_ | refine jm_aload_nN d_M_pairOf_40 rfl ?_
            refine mr_geta d_M_pairOf_41 f_M_19 hm (by decide) (by decide) ?_
            refine jm_iload_n d_M_pairOf_44 rfl ?_
            refine mr_ld _ d_M_pairOf_45 hm (by decide) (by decide) rfl (vp_in_nI (by show p < 12; omega) (by decide)) ?_
            refine jm_iload_n d_M_pairOf_46 rfl ?_
            refine jm_icmp_ne 52 d_M_pairOf_47 (by decide) (fun hb47 => ?_) (fun hb47 => ?_)
            · refine jm_iincL (v := nI (p + 1)) d_M_pairOf_52 rfl (by rw [nI_succ]; rfl) ?_
              refine jm_goto 2 d_M_pairOf_55 (by decide) ?_
              have e9 := ih (p + 1) (by omega)
              rw [show pairF S a b (k + 1) p = pairF S a b k (p + 1) from if_neg (by simp only [nI_clamp (show p < 2 ^ 31 by omega)] at *; intro q9; rcases q9 with ⟨q1, q2⟩ | ⟨q1, q2⟩ <;> simp_all)]
              exact e9
            · refine jm_iload_n d_M_pairOf_50 rfl ?_
              exact jm_iret d_M_pairOf_51 rfl ⟨rfl, by simp only [nI_clamp (show p < 2 ^ 31 by omega)] at *; simp_all [pairF]⟩
theorem k_M_pairOf {np : Nat} (hnp : S 5 0 = nI np) (h12 : np ≤ 12) (a b : Int32) : mA Γ m_M_pairOf d m ar [.int a, .int b] S (some (.int (pairF S a b np 0))) := by
  intro h hm
  refine jm_entry (by decide +kernel) (List.forall_mem_cons.mpr ⟨rfl, List.forall_mem_cons.mpr ⟨rfl, List.forall_mem_cons.mpr ⟨rfl, fun _ h => nomatch h⟩⟩⟩) (Nat.le_of_ble_eq_true rfl) ?_
  show jm_W _ _ _ _ _ _ 0 [some (.ref m), some (.int a), some (.int b), none] [] _
  refine jm_iconstL (v := 0) d_M_pairOf_0 (by decide) ?_
  refine jm_istore_n d_M_pairOf_1 (Nat.le_of_ble_eq_true rfl) ?_
  exact lp_M_pairOf hnp h12 hm a b np 0 (by omega)
end
