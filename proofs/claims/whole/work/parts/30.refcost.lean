/-! THE REFERENCE: width, place, cost, best. Written by wip/whole/gen/p30.py -/
section
variable {Γ : jm_G} {μ : jm_Mt} {d rc rs : Nat} {Q : jm_O → jm_H → Prop} {pc : Nat} {ls : List (Option Value)} {st : List Value} {h h0 : jm_H} {m : Nat} {ar : Nat → Nat} {S : mS}
theorem mo_len_le (j : Nat) : mo_len j ≤ 5376 := by
  unfold mo_len
  split <;> omega
theorem mr_ldN (j : Nat) {i : Int32} {k : Nat} (hd : decode μ.2.1 pc = .ok (.iaload, 1)) (hm : mo h m ar S) (hj : j < 42) (hl : 0 < mo_len j) (hk : mo_kd j = 100) (hi : i = nI k) (hik : k < mo_len j) (kk : jm_W Γ μ d rc rs Q (pc + 1) ls (.int (S j k) :: st) h) : jm_W Γ μ d rc rs Q pc ls (.int i :: .ref (ar j) :: st) h := by
  have hb : k < 2 ^ 31 := by
    have := mo_len_le j
    omega
  refine mr_ld j hd hm hj hl hk (by rw [hi]; exact vp_in_nI hik (by have := mo_len_le j; omega)) ?_
  rw [hi, nI_clamp hb]
  exact kk
theorem mr_stN (j : Nat) {i x : Int32} {k : Nat} (hd : decode μ.2.1 pc = .ok (.iastore, 1)) (hm : mo h m ar S) (hf : mo_fr m ar h0 h) (hj : j < 42) (hl : 0 < mo_len j) (hk : mo_kd j = 100) (hi : i = nI k) (hik : k < mo_len j) (kk : ∀ h', mo h' m ar (mu S j k x) → mo_fr m ar h0 h' → jm_W Γ μ d rc rs Q (pc + 1) ls st h') : jm_W Γ μ d rc rs Q pc ls (.int x :: .int i :: .ref (ar j) :: st) h := by
  have hb : k < 2 ^ 31 := by
    have := mo_len_le j
    omega
  refine mr_st j hd hm hf hj hl hk (by rw [hi]; exact vp_in_nI hik (by have := mo_len_le j; omega)) ?_
  rw [hi, nI_clamp hb]
  exact kk
theorem mr_ldzN (j : Nat) {i : Int32} {k : Nat} (hd : decode μ.2.1 pc = .ok (.baload, 1)) (hm : mo h m ar S) (hj : j < 42) (hl : 0 < mo_len j) (hk : mo_kd j = 101) (hi : i = nI k) (hik : k < mo_len j) (kk : jm_W Γ μ d rc rs Q (pc + 1) ls (.int (S j k) :: st) h) : jm_W Γ μ d rc rs Q pc ls (.int i :: .ref (ar j) :: st) h := by
  have hb : k < 2 ^ 31 := by
    have := mo_len_le j
    omega
  refine mr_ldz j hd hm hj hl hk (by rw [hi]; exact vp_in_nI hik (by have := mo_len_le j; omega)) ?_
  rw [hi, nI_clamp hb]
  exact kk
theorem mr_stzN (j : Nat) {i x : Int32} {k : Nat} (hd : decode μ.2.1 pc = .ok (.bastore, 1)) (hm : mo h m ar S) (hf : mo_fr m ar h0 h) (hj : j < 42) (hl : 0 < mo_len j) (hk : mo_kd j = 101) (hi : i = nI k) (hik : k < mo_len j) (hx : narrow .boolean (.int x) = .int x) (kk : ∀ h', mo h' m ar (mu S j k x) → mo_fr m ar h0 h' → jm_W Γ μ d rc rs Q (pc + 1) ls st h') : jm_W Γ μ d rc rs Q pc ls (.int x :: .int i :: .ref (ar j) :: st) h := by
  have hb : k < 2 ^ 31 := by
    have := mo_len_le j
    omega
  refine mr_stz j hd hm hf hj hl hk (by rw [hi]; exact vp_in_nI hik (by have := mo_len_le j; omega)) hx ?_
  rw [hi, nI_clamp hb]
  exact kk
end
section
variable {Γ : jm_G} {d m : Nat} {ar : Nat → Nat} {S : mS} {h : jm_H}
/-- the number at i of row j -/
abbrev N (S : mS) (j i : Nat) : Nat := (S j i).toNatClampNeg
/-- .. is such a number, at most b -/
abbrev nn (S : mS) (j i b : Nat) : Prop := S j i = nI (N S j i) ∧ N S j i ≤ b
theorem nn_of {j i b k : Nat} (h : S j i = nI k) (hk : k ≤ b) (hb : b < 2 ^ 31) : nn S j i b := by
  unfold nn N
  rw [h, nI_clamp (by omega)]
  exact ⟨rfl, hk⟩
theorem N_of {j i k : Nat} (h : S j i = nI k) (hb : k < 2 ^ 31) : N S j i = k := by
  unfold N
  rw [h, nI_clamp (by omega)]
/-- the product of the sizes of the agents below k in mask x -/
def unR (z : Nat → Int32) (x : Int32) : Nat → Nat
  | 0 => 1
  | k + 1 => if cI x (nI k) then unR z x k * (z k).toNatClampNeg else unR z x k
abbrev unN (S : mS) : Int32 → Nat → Nat := unR (S 3)
/-- the place of the values nv in a table over x -/
def plR (z : Nat → Int32) (x : Int32) (nv : Nat → Nat) : Nat → Nat
  | 0 => 0
  | k + 1 => if cI x (nI k) then plR z x nv k + unR z x k * nv k else plR z x nv k
abbrev plN (S : mS) : Int32 → (Nat → Nat) → Nat → Nat := plR (S 3)
theorem plR_lt {z : Nat → Int32} {x : Int32} {nv : Nat → Nat} : ∀ k, (∀ b, b < k → cI x (nI b) → nv b < (z b).toNatClampNeg) → plR z x nv k < unR z x k
  | 0, _ => Nat.zero_lt_one
  | k + 1, h => by
    have h1 := plR_lt (z := z) (x := x) (nv := nv) k (fun b hb => h b (by omega))
    by_cases hc : cI x (nI k)
    · rw [show plR z x nv (k + 1) = plR z x nv k + unR z x k * nv k from if_pos hc, show unR z x (k + 1) = unR z x k * (z k).toNatClampNeg from if_pos hc]
      have h2 := Nat.mul_le_mul_left (unR z x k) (h k (by omega) hc)
      rw [Nat.mul_succ] at h2
      omega
    · rw [show plR z x nv (k + 1) = plR z x nv k from if_neg hc, show unR z x (k + 1) = unR z x k from if_neg hc]
      exact h1
theorem lp_M_width {rc rs k : Nat} (hk : k < 8) (hd : 1 ≤ d) (hz : ∀ b, b < 8 → nn S 3 b 4) (hm : mo h m ar S) : ∀ j b, b + j = 8 → jm_W Γ m_M_width d rc rs (fun oc h' => h' = h ∧ oc = .inl (some (.int (nI (unN S (S 22 k) 8))))) 4 [some (.ref m), some (.int (nI k)), some (.int (nI (unN S (S 22 k) b))), some (.int (nI b))] [] h := by
  intro j
  induction j with
  | zero =>
    intro b hb
    have hb' : b = 8 := by omega
    subst hb'
    refine jm_iload_n d_M_width_4 rfl ?_
    refine jm_bipushL (v := 8) d_M_width_5 (by decide) ?_
    refine jm_icmp_ge 42 d_M_width_7 (by decide) (fun hb7 => ?_) (fun hb7 => ?_)
    · refine jm_iload_n d_M_width_42 rfl ?_
      exact jm_iret d_M_width_43 rfl ⟨rfl, rfl⟩
    · exact absurd (by decide) hb7
  | succ j ih =>
    intro b hb
    have hb8 : b < 8 := by omega
    have e9 := ih (b + 1) (by omega)
    refine jm_iload_n d_M_width_4 rfl ?_
    refine jm_bipushL (v := 8) d_M_width_5 (by decide) ?_
    refine jm_icmp_ge 42 d_M_width_7 (by decide) (fun hb7 => ?_) (fun hb7 => ?_)
    · exact absurd hb7 (nI_ge (b := 8) (by omega) (by decide))
    · first | refine jm_aload_n d_M_width_10 rfl ?_ | refine jm_aload_nN d_M_width_10 rfl ?_
      refine mr_geta d_M_width_11 f_M_65 hm (by decide) (by decide) ?_
      refine jm_iload_n d_M_width_14 rfl ?_
      refine mr_ldN _ d_M_width_15 hm (by decide) (by decide) rfl rfl (by simp only [mo_len]; omega) ?_
      refine jm_iload_n d_M_width_16 rfl ?_
      refine jm_callSp (As := [_, _]) d_M_width_17 l_M_120 sw_M_has nv_M_has rfl (Nat.le_of_ble_eq_true rfl) (by omega : 0 + 1 ≤ _) (k_M_has _ _) ?_
      first | refine jm_bz_eq 34 d_M_width_20 (by decide) (fun hb20 => ?_) (fun hb20 => ?_) | refine jm_if_eq 34 d_M_width_20 (by decide) (fun hb20 => ?_) (fun hb20 => ?_)
      · refine jm_iload_n d_M_width_34 rfl ?_
        refine jm_istore_n d_M_width_35 (Nat.le_of_ble_eq_true rfl) ?_
        refine jm_iincL (v := nI (b + 1)) d_M_width_36 rfl (by rw [nI_succ]; rfl) ?_
        refine jm_goto 4 d_M_width_39 (by decide) ?_
        first | rw [show unN S (S 22 k) (b + 1) = unN S (S 22 k) b from if_neg hb20] at e9 | rw [show unN S (S 22 k) (b + 1) = unN S (S 22 k) b * N S 3 b from if_pos hb20, ← pk_mul, ← (hz b hb8).1] at e9
        exact e9
      · refine jm_iload_n d_M_width_23 rfl ?_
        first | refine jm_aload_n d_M_width_24 rfl ?_ | refine jm_aload_nN d_M_width_24 rfl ?_
        refine mr_geta d_M_width_25 f_M_7 hm (by decide) (by decide) ?_
        refine jm_iload_n d_M_width_28 rfl ?_
        refine mr_ldN _ d_M_width_29 hm (by decide) (by decide) rfl rfl (by simp only [mo_len]; omega) ?_
        refine jm_imul d_M_width_30 ?_
        refine jm_goto 35 d_M_width_31 (by decide) ?_
        refine jm_istore_n d_M_width_35 (Nat.le_of_ble_eq_true rfl) ?_
        refine jm_iincL (v := nI (b + 1)) d_M_width_36 rfl (by rw [nI_succ]; rfl) ?_
        refine jm_goto 4 d_M_width_39 (by decide) ?_
        first | rw [show unN S (S 22 k) (b + 1) = unN S (S 22 k) b from if_neg hb20] at e9 | rw [show unN S (S 22 k) (b + 1) = unN S (S 22 k) b * N S 3 b from if_pos hb20, ← pk_mul, ← (hz b hb8).1] at e9
        exact e9
theorem k_M_width {k : Nat} (hk : k < 8) (hd : 1 ≤ d) (hz : ∀ b, b < 8 → nn S 3 b 4) : mA Γ m_M_width d m ar [.int (nI k)] S (some (.int (nI (unN S (S 22 k) 8)))) := by
  intro h hm
  refine jm_entry (by decide +kernel) (List.forall_mem_cons.mpr ⟨rfl, List.forall_mem_cons.mpr ⟨rfl, fun _ h => nomatch h⟩⟩) (Nat.le_of_ble_eq_true rfl) ?_
  show jm_W _ _ _ _ _ _ 0 [some (.ref m), some (.int (nI k)), none, none] [] _
  refine jm_iconstL (v := 1) d_M_width_0 (by decide) ?_
  refine jm_istore_n d_M_width_1 (Nat.le_of_ble_eq_true rfl) ?_
  refine jm_iconstL (v := 0) d_M_width_2 (by decide) ?_
  refine jm_istore_n d_M_width_3 (Nat.le_of_ble_eq_true rfl) ?_
  exact lp_M_width hk hd hz hm 8 0 (by omega)
theorem lp_M_placeIn {rc rs t : Nat} {nv : Nat → Nat} (ht : t < 16) (hd : 1 ≤ d) (hz : ∀ b, b < 8 → nn S 3 b 4) (hv : ∀ b, b < 8 → S 32 b = nI (nv b)) (hm : mo h m ar S) : ∀ j b, b + j = 8 → jm_W Γ m_M_placeIn d rc rs (fun oc h' => h' = h ∧ oc = .inl (some (.int (nI (plN S (S 24 t) nv 8))))) 7 [some (.ref m), some (.int (nI t)), some (.int (nI (plN S (S 24 t) nv b))), some (.int (nI (unN S (S 24 t) b))), some (.int (nI b))] [] h := by
  intro j
  induction j with
  | zero =>
    intro b hb
    have hb' : b = 8 := by omega
    subst hb'
    refine jm_iload d_M_placeIn_7 rfl ?_
    refine jm_bipushL (v := 8) d_M_placeIn_9 (by decide) ?_
    refine jm_icmp_ge 56 d_M_placeIn_11 (by decide) (fun hb11 => ?_) (fun hb11 => ?_)
    · refine jm_iload_n d_M_placeIn_56 rfl ?_
      exact jm_iret d_M_placeIn_57 rfl ⟨rfl, rfl⟩
    · exact absurd (by decide) hb11
  | succ j ih =>
    intro b hb
    have hb8 : b < 8 := by omega
    have e9 := ih (b + 1) (by omega)
    refine jm_iload d_M_placeIn_7 rfl ?_
    refine jm_bipushL (v := 8) d_M_placeIn_9 (by decide) ?_
    refine jm_icmp_ge 56 d_M_placeIn_11 (by decide) (fun hb11 => ?_) (fun hb11 => ?_)
    · exact absurd hb11 (nI_ge (b := 8) (by omega) (by decide))
    · first | refine jm_aload_n d_M_placeIn_14 rfl ?_ | refine jm_aload_nN d_M_placeIn_14 rfl ?_
      refine mr_geta d_M_placeIn_15 f_M_71 hm (by decide) (by decide) ?_
      refine jm_iload_n d_M_placeIn_18 rfl ?_
      refine mr_ldN _ d_M_placeIn_19 hm (by decide) (by decide) rfl rfl (by simp only [mo_len]; omega) ?_
      refine jm_iload d_M_placeIn_20 rfl ?_
      refine jm_callSp (As := [_, _]) d_M_placeIn_22 l_M_120 sw_M_has nv_M_has rfl (Nat.le_of_ble_eq_true rfl) (by omega : 0 + 1 ≤ _) (k_M_has _ _) ?_
      first | refine jm_bz_eq 50 d_M_placeIn_25 (by decide) (fun hb25 => ?_) (fun hb25 => ?_) | refine jm_if_eq 50 d_M_placeIn_25 (by decide) (fun hb25 => ?_) (fun hb25 => ?_)
      · refine jm_iincL (v := nI (b + 1)) d_M_placeIn_50 rfl (by rw [nI_succ]; rfl) ?_
        refine jm_goto 7 d_M_placeIn_53 (by decide) ?_
        first | rw [show unN S (S 24 t) (b + 1) = unN S (S 24 t) b from if_neg hb25, show plN S (S 24 t) nv (b + 1) = plN S (S 24 t) nv b from if_neg hb25] at e9 | rw [show unN S (S 24 t) (b + 1) = unN S (S 24 t) b * N S 3 b from if_pos hb25, show plN S (S 24 t) nv (b + 1) = plN S (S 24 t) nv b + unN S (S 24 t) b * nv b from if_pos hb25, ← pk_mul, ← (hz b hb8).1, ← nI_add, ← pk_mul, ← hv b hb8] at e9
        exact e9
      · refine jm_iload_n d_M_placeIn_28 rfl ?_
        refine jm_iload_n d_M_placeIn_29 rfl ?_
        first | refine jm_aload_n d_M_placeIn_30 rfl ?_ | refine jm_aload_nN d_M_placeIn_30 rfl ?_
        refine mr_geta d_M_placeIn_31 f_M_92 hm (by decide) (by decide) ?_
        refine jm_iload d_M_placeIn_34 rfl ?_
        refine mr_ldN _ d_M_placeIn_36 hm (by decide) (by decide) rfl rfl (by simp only [mo_len]; omega) ?_
        refine jm_imul d_M_placeIn_37 ?_
        refine jm_iadd d_M_placeIn_38 ?_
        refine jm_istore_n d_M_placeIn_39 (Nat.le_of_ble_eq_true rfl) ?_
        refine jm_iload_n d_M_placeIn_40 rfl ?_
        first | refine jm_aload_n d_M_placeIn_41 rfl ?_ | refine jm_aload_nN d_M_placeIn_41 rfl ?_
        refine mr_geta d_M_placeIn_42 f_M_7 hm (by decide) (by decide) ?_
        refine jm_iload d_M_placeIn_45 rfl ?_
        refine mr_ldN _ d_M_placeIn_47 hm (by decide) (by decide) rfl rfl (by simp only [mo_len]; omega) ?_
        refine jm_imul d_M_placeIn_48 ?_
        refine jm_istore_n d_M_placeIn_49 (Nat.le_of_ble_eq_true rfl) ?_
        refine jm_iincL (v := nI (b + 1)) d_M_placeIn_50 rfl (by rw [nI_succ]; rfl) ?_
        refine jm_goto 7 d_M_placeIn_53 (by decide) ?_
        first | rw [show unN S (S 24 t) (b + 1) = unN S (S 24 t) b from if_neg hb25, show plN S (S 24 t) nv (b + 1) = plN S (S 24 t) nv b from if_neg hb25] at e9 | rw [show unN S (S 24 t) (b + 1) = unN S (S 24 t) b * N S 3 b from if_pos hb25, show plN S (S 24 t) nv (b + 1) = plN S (S 24 t) nv b + unN S (S 24 t) b * nv b from if_pos hb25, ← pk_mul, ← (hz b hb8).1, ← nI_add, ← pk_mul, ← hv b hb8] at e9
        exact e9
theorem k_M_placeIn {t : Nat} {nv : Nat → Nat} (ht : t < 16) (hd : 1 ≤ d) (hz : ∀ b, b < 8 → nn S 3 b 4) (hv : ∀ b, b < 8 → S 32 b = nI (nv b)) : mA Γ m_M_placeIn d m ar [.int (nI t)] S (some (.int (nI (plN S (S 24 t) nv 8)))) := by
  intro h hm
  refine jm_entry (by decide +kernel) (List.forall_mem_cons.mpr ⟨rfl, List.forall_mem_cons.mpr ⟨rfl, fun _ h => nomatch h⟩⟩) (Nat.le_of_ble_eq_true rfl) ?_
  show jm_W _ _ _ _ _ _ 0 [some (.ref m), some (.int (nI t)), none, none, none] [] _
  refine jm_iconstL (v := 0) d_M_placeIn_0 (by decide) ?_
  refine jm_istore_n d_M_placeIn_1 (Nat.le_of_ble_eq_true rfl) ?_
  refine jm_iconstL (v := 1) d_M_placeIn_2 (by decide) ?_
  refine jm_istore_n d_M_placeIn_3 (Nat.le_of_ble_eq_true rfl) ?_
  refine jm_iconstL (v := 0) d_M_placeIn_4 (by decide) ?_
  refine jm_istore d_M_placeIn_5 (Nat.le_of_ble_eq_true rfl) ?_
  exact lp_M_placeIn ht hd hz hv hm 8 0 (by omega)
end
