/-! LEAVES: static methods of numbers. Written by wip/whole/gen/p20.py -/
section
variable {Γ : jm_G} {d : Nat} {h : jm_H}
theorem k_B_isCost (c : Int32) : jm_A Γ m_B_isCost d [.int c] h (some (.int (if c = -2 ∨ (0 ≤ c ∧ c ≤ 999) then 1 else 0))) := by
  refine jm_entry (by decide +kernel) (List.forall_mem_cons.mpr ⟨rfl, fun _ h => nomatch h⟩) (Nat.le_of_ble_eq_true rfl) ?_
  show jm_W _ _ _ _ _ _ 0 [some (.int c)] [] _
  refine jm_iload_n d_B_isCost_0 rfl ?_
  refine jm_bipushL (v := (-2)) d_B_isCost_1 (by decide) ?_
  refine jm_icmp_eq 17 d_B_isCost_3 (by decide) (fun hb3 => ?_) (fun hb3 => ?_)
  · refine jm_iconstL (v := 1) d_B_isCost_17 (by decide) ?_
    refine jm_goto 22 d_B_isCost_18 (by decide) ?_
    exact jm_zret d_B_isCost_22 rfl rfl ⟨rfl, by first | rfl | (simp_all; done) | (split <;> first | rfl | (exfalso; simp only [Int32.lt_iff_toInt_lt, Int32.le_iff_toInt_le, ← Int32.toInt_inj, Int32.reduceToInt] at *; omega))⟩
  · refine jm_iload_n d_B_isCost_6 rfl ?_
    refine jm_if_lt 21 d_B_isCost_7 (by decide) (fun hb7 => ?_) (fun hb7 => ?_)
    · refine jm_iconstL (v := 0) d_B_isCost_21 (by decide) ?_
      exact jm_zret d_B_isCost_22 rfl rfl ⟨rfl, by first | rfl | (simp_all; done) | (split <;> first | rfl | (exfalso; simp only [Int32.lt_iff_toInt_lt, Int32.le_iff_toInt_le, ← Int32.toInt_inj, Int32.reduceToInt] at *; omega))⟩
    · refine jm_iload_n d_B_isCost_10 rfl ?_
      refine jm_sipushL (v := 999) d_B_isCost_11 (by decide) ?_
      refine jm_icmp_gt 21 d_B_isCost_14 (by decide) (fun hb14 => ?_) (fun hb14 => ?_)
      · refine jm_iconstL (v := 0) d_B_isCost_21 (by decide) ?_
        exact jm_zret d_B_isCost_22 rfl rfl ⟨rfl, by first | rfl | (simp_all; done) | (split <;> first | rfl | (exfalso; simp only [Int32.lt_iff_toInt_lt, Int32.le_iff_toInt_le, ← Int32.toInt_inj, Int32.reduceToInt] at *; omega))⟩
      · refine jm_iconstL (v := 1) d_B_isCost_17 (by decide) ?_
        refine jm_goto 22 d_B_isCost_18 (by decide) ?_
        exact jm_zret d_B_isCost_22 rfl rfl ⟨rfl, by first | rfl | (simp_all; done) | (split <;> first | rfl | (exfalso; simp only [Int32.lt_iff_toInt_lt, Int32.le_iff_toInt_le, ← Int32.toInt_inj, Int32.reduceToInt] at *; omega))⟩
theorem k_B_plus (x y : Int32) : jm_A Γ m_B_plus d [.int x, .int y] h (some (.int (if x = -2 ∨ y = -2 then -2 else x + y))) := by
  refine jm_entry (by decide +kernel) (List.forall_mem_cons.mpr ⟨rfl, List.forall_mem_cons.mpr ⟨rfl, fun _ h => nomatch h⟩⟩) (Nat.le_of_ble_eq_true rfl) ?_
  show jm_W _ _ _ _ _ _ 0 [some (.int x), some (.int y)] [] _
  refine jm_iload_n d_B_plus_0 rfl ?_
  refine jm_bipushL (v := (-2)) d_B_plus_1 (by decide) ?_
  refine jm_icmp_eq 12 d_B_plus_3 (by decide) (fun hb3 => ?_) (fun hb3 => ?_)
  · refine jm_bipushL (v := (-2)) d_B_plus_12 (by decide) ?_
    refine jm_goto 20 d_B_plus_14 (by decide) ?_
    exact jm_iret d_B_plus_20 rfl ⟨rfl, by first | rfl | (simp_all; done) | (split <;> first | rfl | (exfalso; simp only [Int32.lt_iff_toInt_lt, Int32.le_iff_toInt_le, ← Int32.toInt_inj, Int32.reduceToInt] at *; omega))⟩
  · refine jm_iload_n d_B_plus_6 rfl ?_
    refine jm_bipushL (v := (-2)) d_B_plus_7 (by decide) ?_
    refine jm_icmp_ne 17 d_B_plus_9 (by decide) (fun hb9 => ?_) (fun hb9 => ?_)
    · refine jm_iload_n d_B_plus_17 rfl ?_
      refine jm_iload_n d_B_plus_18 rfl ?_
      refine jm_iadd d_B_plus_19 ?_
      exact jm_iret d_B_plus_20 rfl ⟨rfl, by first | rfl | (simp_all; done) | (split <;> first | rfl | (exfalso; simp only [Int32.lt_iff_toInt_lt, Int32.le_iff_toInt_le, ← Int32.toInt_inj, Int32.reduceToInt] at *; omega))⟩
    · refine jm_bipushL (v := (-2)) d_B_plus_12 (by decide) ?_
      refine jm_goto 20 d_B_plus_14 (by decide) ?_
      exact jm_iret d_B_plus_20 rfl ⟨rfl, by first | rfl | (simp_all; done) | (split <;> first | rfl | (exfalso; simp only [Int32.lt_iff_toInt_lt, Int32.le_iff_toInt_le, ← Int32.toInt_inj, Int32.reduceToInt] at *; omega))⟩
theorem k_J_min (x y : Int32) : jm_A Γ m_J_min d [.int x, .int y] h (some (.int (if x ≤ y then x else y))) := by
  refine jm_entryF (by decide +kernel) (List.forall_mem_cons.mpr ⟨rfl, List.forall_mem_cons.mpr ⟨rfl, fun _ h => nomatch h⟩⟩) (Nat.le_of_ble_eq_true rfl) ?_
  show jm_W _ _ _ _ _ _ 0 [some (.int x), some (.int y)] [] _
  refine jm_iload_n d_J_min_0 rfl ?_
  refine jm_iload_n d_J_min_1 rfl ?_
  refine jm_icmp_gt 9 d_J_min_2 (by decide) (fun hb2 => ?_) (fun hb2 => ?_)
  · refine jm_iload_n d_J_min_9 rfl ?_
    exact jm_iret d_J_min_10 rfl ⟨rfl, by first | rfl | (simp_all; done) | (split <;> first | rfl | (exfalso; simp only [Int32.lt_iff_toInt_lt, Int32.le_iff_toInt_le, ← Int32.toInt_inj, Int32.reduceToInt] at *; omega))⟩
  · refine jm_iload_n d_J_min_5 rfl ?_
    refine jm_goto 10 d_J_min_6 (by decide) ?_
    exact jm_iret d_J_min_10 rfl ⟨rfl, by first | rfl | (simp_all; done) | (split <;> first | rfl | (exfalso; simp only [Int32.lt_iff_toInt_lt, Int32.le_iff_toInt_le, ← Int32.toInt_inj, Int32.reduceToInt] at *; omega))⟩
theorem k_J_max (x y : Int32) : jm_A Γ m_J_max d [.int x, .int y] h (some (.int (if y ≤ x then x else y))) := by
  refine jm_entryF (by decide +kernel) (List.forall_mem_cons.mpr ⟨rfl, List.forall_mem_cons.mpr ⟨rfl, fun _ h => nomatch h⟩⟩) (Nat.le_of_ble_eq_true rfl) ?_
  show jm_W _ _ _ _ _ _ 0 [some (.int x), some (.int y)] [] _
  refine jm_iload_n d_J_max_0 rfl ?_
  refine jm_iload_n d_J_max_1 rfl ?_
  refine jm_icmp_lt 9 d_J_max_2 (by decide) (fun hb2 => ?_) (fun hb2 => ?_)
  · refine jm_iload_n d_J_max_9 rfl ?_
    exact jm_iret d_J_max_10 rfl ⟨rfl, by first | rfl | (simp_all; done) | (split <;> first | rfl | (exfalso; simp only [Int32.lt_iff_toInt_lt, Int32.le_iff_toInt_le, ← Int32.toInt_inj, Int32.reduceToInt] at *; omega))⟩
  · refine jm_iload_n d_J_max_5 rfl ?_
    refine jm_goto 10 d_J_max_6 (by decide) ?_
    exact jm_iret d_J_max_10 rfl ⟨rfl, by first | rfl | (simp_all; done) | (split <;> first | rfl | (exfalso; simp only [Int32.lt_iff_toInt_lt, Int32.le_iff_toInt_le, ← Int32.toInt_inj, Int32.reduceToInt] at *; omega))⟩
theorem k_M_within (v a b : Int32) : jm_A Γ m_M_within d [.int v, .int a, .int b] h (some (.int (if a ≤ v ∧ v ≤ b then 1 else 0))) := by
  refine jm_entry (by decide +kernel) (List.forall_mem_cons.mpr ⟨rfl, List.forall_mem_cons.mpr ⟨rfl, List.forall_mem_cons.mpr ⟨rfl, fun _ h => nomatch h⟩⟩⟩) (Nat.le_of_ble_eq_true rfl) ?_
  show jm_W _ _ _ _ _ _ 0 [some (.int v), some (.int a), some (.int b)] [] _
  refine jm_iload_n d_M_within_0 rfl ?_
  refine jm_iload_n d_M_within_1 rfl ?_
  refine jm_icmp_lt 14 d_M_within_2 (by decide) (fun hb2 => ?_) (fun hb2 => ?_)
  · refine jm_iconstL (v := 0) d_M_within_14 (by decide) ?_
    exact jm_zret d_M_within_15 rfl rfl ⟨rfl, by first | rfl | (simp_all; done) | (split <;> first | rfl | (exfalso; simp only [Int32.lt_iff_toInt_lt, Int32.le_iff_toInt_le, ← Int32.toInt_inj, Int32.reduceToInt] at *; omega))⟩
  · refine jm_iload_n d_M_within_5 rfl ?_
    refine jm_iload_n d_M_within_6 rfl ?_
    refine jm_icmp_gt 14 d_M_within_7 (by decide) (fun hb7 => ?_) (fun hb7 => ?_)
    · refine jm_iconstL (v := 0) d_M_within_14 (by decide) ?_
      exact jm_zret d_M_within_15 rfl rfl ⟨rfl, by first | rfl | (simp_all; done) | (split <;> first | rfl | (exfalso; simp only [Int32.lt_iff_toInt_lt, Int32.le_iff_toInt_le, ← Int32.toInt_inj, Int32.reduceToInt] at *; omega))⟩
    · refine jm_iconstL (v := 1) d_M_within_10 (by decide) ?_
      refine jm_goto 15 d_M_within_11 (by decide) ?_
      exact jm_zret d_M_within_15 rfl rfl ⟨rfl, by first | rfl | (simp_all; done) | (split <;> first | rfl | (exfalso; simp only [Int32.lt_iff_toInt_lt, Int32.le_iff_toInt_le, ← Int32.toInt_inj, Int32.reduceToInt] at *; omega))⟩
end
