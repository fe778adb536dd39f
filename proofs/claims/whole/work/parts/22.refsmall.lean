/-! THE REFERENCE: small methods. Written by wip/whole/gen/p22.py -/
section
variable {Γ : jm_G} {d m : Nat} {ar : Nat → Nat} {S : mS} {h : jm_H}
theorem k_M_has (x a : Int32) : jm_A Γ m_M_has d [.int x, .int a] h (some (.int (if (x >>> (a &&& 31)) &&& 1 = 1 then 1 else 0))) := by
  refine jm_entry (by decide +kernel) (List.forall_mem_cons.mpr ⟨rfl, List.forall_mem_cons.mpr ⟨rfl, fun _ h => nomatch h⟩⟩) (Nat.le_of_ble_eq_true rfl) ?_
  show jm_W _ _ _ _ _ _ 0 [some (.int x), some (.int a)] [] _
  refine jm_iload_n d_M_has_0 rfl ?_
  refine jm_iload_n d_M_has_1 rfl ?_
  refine jm_ishr d_M_has_2 ?_
  refine jm_iconstL (v := 1) d_M_has_3 (by decide) ?_
  refine jm_iand d_M_has_4 ?_
  refine jm_iconstL (v := 1) d_M_has_5 (by decide) ?_
  refine jm_icmp_ne 13 d_M_has_6 (by decide) (fun hb6 => ?_) (fun hb6 => ?_)
  · refine jm_iconstL (v := 0) d_M_has_13 (by decide) ?_
    exact jm_zret d_M_has_14 rfl (by first | rfl | (split <;> rfl)) ⟨rfl, by first | rfl | (simp_all; done) | (split <;> first | rfl | (exfalso; simp_all; done))⟩
  · refine jm_iconstL (v := 1) d_M_has_9 (by decide) ?_
    refine jm_goto 14 d_M_has_10 (by decide) ?_
    exact jm_zret d_M_has_14 rfl (by first | rfl | (split <;> rfl)) ⟨rfl, by first | rfl | (simp_all; done) | (split <;> first | rfl | (exfalso; simp_all; done))⟩
theorem k_B_contains (x a : Int32) : jm_A Γ m_B_contains d [.int x, .int a] h (some (.int (if (x >>> (a &&& 31)) &&& 1 = 1 then 1 else 0))) := by
  refine jm_entry (by decide +kernel) (List.forall_mem_cons.mpr ⟨rfl, List.forall_mem_cons.mpr ⟨rfl, fun _ h => nomatch h⟩⟩) (Nat.le_of_ble_eq_true rfl) ?_
  show jm_W _ _ _ _ _ _ 0 [some (.int x), some (.int a)] [] _
  refine jm_iload_n d_B_contains_0 rfl ?_
  refine jm_iload_n d_B_contains_1 rfl ?_
  refine jm_ishr d_B_contains_2 ?_
  refine jm_iconstL (v := 1) d_B_contains_3 (by decide) ?_
  refine jm_iand d_B_contains_4 ?_
  refine jm_iconstL (v := 1) d_B_contains_5 (by decide) ?_
  refine jm_icmp_ne 13 d_B_contains_6 (by decide) (fun hb6 => ?_) (fun hb6 => ?_)
  · refine jm_iconstL (v := 0) d_B_contains_13 (by decide) ?_
    exact jm_zret d_B_contains_14 rfl (by first | rfl | (split <;> rfl)) ⟨rfl, by first | rfl | (simp_all; done) | (split <;> first | rfl | (exfalso; simp_all; done))⟩
  · refine jm_iconstL (v := 1) d_B_contains_9 (by decide) ?_
    refine jm_goto 14 d_B_contains_10 (by decide) ?_
    exact jm_zret d_B_contains_14 rfl (by first | rfl | (split <;> rfl)) ⟨rfl, by first | rfl | (simp_all; done) | (split <;> first | rfl | (exfalso; simp_all; done))⟩
theorem k_M_thrown  : mA Γ m_M_thrown d m ar [] S (some (.int (S 0 0))) := by
  intro h hm
  refine jm_entry (by decide +kernel) (List.forall_mem_cons.mpr ⟨rfl, fun _ h => nomatch h⟩) (Nat.le_of_ble_eq_true rfl) ?_
  show jm_W _ _ _ _ _ _ 0 [some (.ref m)] [] _
  first | refine jm_aload_n d_M_thrown_0 rfl ?_ | refine jm_aload_nN d_M_thrown_0 rfl ?_
  refine mr_geti d_M_thrown_1 f_M_116 hm (by decide) rfl ?_
  exact jm_iret d_M_thrown_4 rfl ⟨rfl, rfl⟩
theorem k_M_isAgent (hd : 1 ≤ d) (a : Int32) : mA Γ m_M_isAgent d m ar [.int a] S (some (.int (if 0 ≤ a ∧ a ≤ S 1 0 - 1 then 1 else 0))) := by
  intro h hm
  refine jm_entry (by decide +kernel) (List.forall_mem_cons.mpr ⟨rfl, List.forall_mem_cons.mpr ⟨rfl, fun _ h => nomatch h⟩⟩) (Nat.le_of_ble_eq_true rfl) ?_
  show jm_W _ _ _ _ _ _ 0 [some (.ref m), some (.int a)] [] _
  refine jm_iload_n d_M_isAgent_0 rfl ?_
  refine jm_iconstL (v := 0) d_M_isAgent_1 (by decide) ?_
  first | refine jm_aload_n d_M_isAgent_2 rfl ?_ | refine jm_aload_nN d_M_isAgent_2 rfl ?_
  refine mr_geti d_M_isAgent_3 f_M_124 hm (by decide) rfl ?_
  refine jm_iconstL (v := 1) d_M_isAgent_6 (by decide) ?_
  refine jm_isub d_M_isAgent_7 ?_
  refine jm_callSp (As := [_, _, _]) d_M_isAgent_8 l_M_127 sw_M_within nv_M_within rfl (Nat.le_of_ble_eq_true rfl) (by omega : 0 + 1 ≤ _) (k_M_within _ _ _) ?_
  exact jm_zret d_M_isAgent_11 rfl (by first | rfl | (split <;> rfl)) ⟨rfl, rfl⟩
end
