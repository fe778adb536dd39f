/-! THE REFERENCE: done, value, total, told. Written by wip/whole/gen/p26.py -/
section
variable {Γ : jm_G} {d m : Nat} {ar : Nat → Nat} {S : mS} {h : jm_H}
theorem stF_mu {n : Nat} {t : Int32} : stF (mu S 0 0 t) n = stF S n := rfl
theorem ptOK_mu {n : Nat} {t : Int32} (h : ptOK S n) : ptOK (mu S 0 0 t) n := h
theorem k_M_done (hd : 2 ≤ d) {n : Nat} (hn : S 1 0 = nI n) (h8 : n ≤ 8) (hp : ptOK S n) : mM Γ m_M_done d m ar [] S (fun v9 S' => S' = mu S 0 0 0 ∧ v9 = some (.int (stF S n))) := by
  intro h hm
  have hf : mo_fr m ar h h := mo_fr.rf
  refine jm_entry (by decide +kernel) (List.forall_mem_cons.mpr ⟨rfl, fun _ h => nomatch h⟩) (Nat.le_of_ble_eq_true rfl) ?_
  show jm_W _ _ _ _ _ _ 0 [some (.ref m)] [] _
  first | refine jm_aload_n d_M_done_0 rfl ?_ | refine jm_aload_nN d_M_done_0 rfl ?_
  refine jm_iconstL (v := 0) d_M_done_1 (by decide) ?_
  refine mr_puti d_M_done_2 f_M_116 hm hf (by decide) rfl (fun h hm hf => ?_)
  first | refine jm_aload_n d_M_done_5 rfl ?_ | refine jm_aload_nN d_M_done_5 rfl ?_
  refine mr_callp (As := []) d_M_done_6 l_M_238 iw_M_state ew_M_state nv_M_state rfl (Nat.le_of_ble_eq_true rfl) (by omega : 1 + 1 ≤ _) (k_M_state (S := mu S 0 0 0) (by omega) hn h8 hp) hm ?_
  exact jm_iret d_M_done_9 rfl ⟨_, _, rfl, ⟨rfl, rfl⟩, hm, hf⟩
theorem k_M_value (hd : 2 ≤ d) {n : Nat} (hn : S 1 0 = nI n) (h8 : n ≤ 8) (hp : ptOK S n) (a : Int32) : mM Γ m_M_value d m ar [.int a] S (fun v9 S' => S' = mu S 0 0 0 ∧ v9 = some (.int (if isAgentS S a ∧ setS S a.toNatClampNeg then S 30 a.toNatClampNeg else -1))) := by
  intro h hm
  have hf : mo_fr m ar h h := mo_fr.rf
  refine jm_entry (by decide +kernel) (List.forall_mem_cons.mpr ⟨rfl, List.forall_mem_cons.mpr ⟨rfl, fun _ h => nomatch h⟩⟩) (Nat.le_of_ble_eq_true rfl) ?_
  show jm_W _ _ _ _ _ _ 0 [some (.ref m), some (.int a)] [] _
  first | refine jm_aload_n d_M_value_0 rfl ?_ | refine jm_aload_nN d_M_value_0 rfl ?_
  refine jm_iconstL (v := 0) d_M_value_1 (by decide) ?_
  refine mr_puti d_M_value_2 f_M_116 hm hf (by decide) rfl (fun h hm hf => ?_)
  first | refine jm_aload_n d_M_value_5 rfl ?_ | refine jm_aload_nN d_M_value_5 rfl ?_
  refine jm_iload_n d_M_value_6 rfl ?_
  refine mr_callp (As := [_]) d_M_value_7 l_M_131 iw_M_isAgent ew_M_isAgent nv_M_isAgent rfl (Nat.le_of_ble_eq_true rfl) (by omega : 1 + 1 ≤ _) (k_M_isAgent (by omega) _) hm ?_
  first | refine jm_bz_eq 30 d_M_value_10 (by decide) (fun hb10 => ?_) (fun hb10 => ?_) | refine jm_if_eq 30 d_M_value_10 (by decide) (fun hb10 => ?_) (fun hb10 => ?_)
  · refine jm_iconstL (v := -1) d_M_value_30 (by decide) ?_
    exact jm_iret d_M_value_31 rfl ⟨_, _, rfl, ⟨rfl, by rw [if_neg (fun q : isAgentS S a ∧ setS S a.toNatClampNeg => hb10 q.1)]⟩, hm, hf⟩
  · obtain ⟨k, hk, rfl⟩ := ag_ix (S := mu S 0 0 0) hn h8 hb10
    first | refine jm_aload_n d_M_value_13 rfl ?_ | refine jm_aload_nN d_M_value_13 rfl ?_
    refine jm_iload_n d_M_value_14 rfl ?_
    refine mr_callp (As := [_]) d_M_value_15 l_M_235 iw_M_isSettled ew_M_isSettled nv_M_isSettled rfl (Nat.le_of_ble_eq_true rfl) (by omega : 0 + 1 ≤ _) (k_M_isSettled (S := mu S 0 0 0) hk h8 hp) hm ?_
    first | refine jm_bz_eq 30 d_M_value_18 (by decide) (fun hb18 => ?_) (fun hb18 => ?_) | refine jm_if_eq 30 d_M_value_18 (by decide) (fun hb18 => ?_) (fun hb18 => ?_)
    · refine jm_iconstL (v := (-1)) d_M_value_30 (by decide) ?_
      exact jm_iret d_M_value_31 rfl ⟨_, _, rfl, ⟨rfl, by rw [nI_clamp (show k < 2 ^ 31 by omega)]; first | rw [if_neg (fun q : isAgentS S (nI k) ∧ setS S k => hb18 q.2)] | rw [if_pos (⟨hb10, hb18⟩ : isAgentS S (nI k) ∧ setS S k)]; rfl⟩, hm, hf⟩
    · first | refine jm_aload_n d_M_value_21 rfl ?_ | refine jm_aload_nN d_M_value_21 rfl ?_
      refine mr_geta d_M_value_22 f_M_86 hm (by decide) (by decide) ?_
      refine jm_iload_n d_M_value_25 rfl ?_
      refine mr_ld _ d_M_value_26 hm (by decide) (by decide) rfl (b8 (by omega)) ?_
      refine jm_goto 31 d_M_value_27 (by decide) ?_
      exact jm_iret d_M_value_31 rfl ⟨_, _, rfl, ⟨rfl, by rw [nI_clamp (show k < 2 ^ 31 by omega)]; first | rw [if_neg (fun q : isAgentS S (nI k) ∧ setS S k => hb18 q.2)] | rw [if_pos (⟨hb10, hb18⟩ : isAgentS S (nI k) ∧ setS S k)]; rfl⟩, hm, hf⟩
/-- the sum of the roots' first entries, of the agents below k -/
def sumF (S : mS) : Nat → Int32
  | 0 => 0
  | k + 1 => if S 11 (S 10 k).toNatClampNeg = nI k then sumF S k + S 26 (256 * k) else sumF S k
theorem lp_M_total {rc rs n : Nat} (hn : S 1 0 = nI n) (h8 : n ≤ 8) (hs : S 2 0 ≠ 0) (hp : ptOK S n) (hm : mo h m ar S) {Q : jm_O → jm_H → Prop} (hQ : Q (.inl (some (.int (sumF S n)))) h) : ∀ j k, k + j = n → jm_W Γ m_M_total d rc rs Q 19 [some (.ref m), some (.int (sumF S k)), some (.int (nI k))] [] h := by
  intro j
  induction j with
  | zero =>
    intro k hk
    have hk' : k = n := by omega
    subst hk'
    refine jm_iload_n d_M_total_19 rfl ?_
    first | refine jm_aload_n d_M_total_20 rfl ?_ | refine jm_aload_nN d_M_total_20 rfl ?_
    refine mr_geti d_M_total_21 f_M_124 hm (by decide) rfl ?_
    refine jm_icmp_ge 65 d_M_total_24 (by decide) (fun hb24 => ?_) (fun hb24 => ?_)
    · refine jm_iload_n d_M_total_65 rfl ?_
      exact jm_iret d_M_total_66 rfl hQ
    · exact absurd (by rw [hn]; exact nI_le (by omega) (by omega)) hb24
  | succ j ih =>
    intro k hk
    have hkn : k < n := by omega
    have hc := nI_clamp (show k < 2 ^ 31 by omega)
    have e256 : (256 : Int32) * nI k = nI (256 * k) := by rw [show (256 : Int32) = nI 256 from rfl, pk_mul]
    refine jm_iload_n d_M_total_19 rfl ?_
    first | refine jm_aload_n d_M_total_20 rfl ?_ | refine jm_aload_nN d_M_total_20 rfl ?_
    refine mr_geti d_M_total_21 f_M_124 hm (by decide) rfl ?_
    refine jm_icmp_ge 65 d_M_total_24 (by decide) (fun hb24 => ?_) (fun hb24 => ?_)
    · rw [hn] at hb24; exact absurd hb24 (nI_ge (by omega) (by omega))
    · first | refine jm_aload_n d_M_total_27 rfl ?_ | refine jm_aload_nN d_M_total_27 rfl ?_
      refine mr_geta d_M_total_28 f_M_31 hm (by decide) (by decide) ?_
      first | refine jm_aload_n d_M_total_31 rfl ?_ | refine jm_aload_nN d_M_total_31 rfl ?_
      refine mr_geta d_M_total_32 f_M_28 hm (by decide) (by decide) ?_
      refine jm_iload_n d_M_total_35 rfl ?_
      refine mr_ld _ d_M_total_36 hm (by decide) (by decide) rfl (b8 (by omega)) ?_
      refine mr_ld _ d_M_total_37 hm (by decide) (by decide) rfl (by obtain ⟨q, r, q1, q2, q3, q4⟩ := hp hs k hkn; rw [hc, q3]; exact b8 q1) ?_
      refine jm_iload_n d_M_total_38 rfl ?_
      refine jm_icmp_ne 57 d_M_total_39 (by decide) (fun hb39 => ?_) (fun hb39 => ?_)
      · refine jm_iload_n d_M_total_57 rfl ?_
        refine jm_istore_n d_M_total_58 (Nat.le_of_ble_eq_true rfl) ?_
        refine jm_iincL (v := nI (k + 1)) d_M_total_59 rfl (by rw [nI_succ]; rfl) ?_
        refine jm_goto 19 d_M_total_62 (by decide) ?_
        have e9 := ih (k + 1) (by omega)
        rw [hc] at hb39
        first | rw [show sumF S (k + 1) = sumF S k from if_neg hb39] at e9 | rw [show sumF S (k + 1) = sumF S k + S 26 (256 * k) from if_pos (Decidable.not_not.mp hb39)] at e9
        exact e9
      · refine jm_iload_n d_M_total_42 rfl ?_
        first | refine jm_aload_n d_M_total_43 rfl ?_ | refine jm_aload_nN d_M_total_43 rfl ?_
        refine mr_geta d_M_total_44 f_M_77 hm (by decide) (by decide) ?_
        refine jm_sipushL (v := 256) d_M_total_47 (by decide) ?_
        refine jm_iload_n d_M_total_50 rfl ?_
        refine jm_imul d_M_total_51 ?_
        rw [e256]
        refine mr_ld _ d_M_total_52 hm (by decide) (by decide) rfl (vp_in_nI (by show 256 * k < 4096; omega) (by decide)) ?_
        rw [nI_clamp (show 256 * k < 2 ^ 31 by omega)]
        refine jm_iadd d_M_total_53 ?_
        refine jm_goto 58 d_M_total_54 (by decide) ?_
        refine jm_istore_n d_M_total_58 (Nat.le_of_ble_eq_true rfl) ?_
        refine jm_iincL (v := nI (k + 1)) d_M_total_59 rfl (by rw [nI_succ]; rfl) ?_
        refine jm_goto 19 d_M_total_62 (by decide) ?_
        have e9 := ih (k + 1) (by omega)
        rw [hc] at hb39
        first | rw [show sumF S (k + 1) = sumF S k from if_neg hb39] at e9 | rw [show sumF S (k + 1) = sumF S k + S 26 (256 * k) from if_pos (Decidable.not_not.mp hb39)] at e9
        exact e9
theorem sumF_mu {t : Int32} : ∀ n, sumF (mu S 0 0 t) n = sumF S n
  | 0 => rfl
  | n + 1 => by
    show (if mu S 0 0 t 11 (mu S 0 0 t 10 n).toNatClampNeg = nI n then sumF (mu S 0 0 t) n + mu S 0 0 t 26 (256 * n) else sumF (mu S 0 0 t) n) = _
    rw [sumF_mu n]
    rfl
theorem k_M_total (hd : 2 ≤ d) {n : Nat} (hn : S 1 0 = nI n) (h8 : n ≤ 8) (hp : ptOK S n) : mM Γ m_M_total d m ar [] S (fun v9 S' => S' = mu S 0 0 0 ∧ v9 = some (.int (if stF S n = 1 then sumF S n else -1))) := by
  intro h hm
  have hf : mo_fr m ar h h := mo_fr.rf
  refine jm_entry (by decide +kernel) (List.forall_mem_cons.mpr ⟨rfl, fun _ h => nomatch h⟩) (Nat.le_of_ble_eq_true rfl) ?_
  show jm_W _ _ _ _ _ _ 0 [some (.ref m), none, none] [] _
  first | refine jm_aload_n d_M_total_0 rfl ?_ | refine jm_aload_nN d_M_total_0 rfl ?_
  refine jm_iconstL (v := 0) d_M_total_1 (by decide) ?_
  refine mr_puti d_M_total_2 f_M_116 hm hf (by decide) rfl (fun h hm hf => ?_)
  first | refine jm_aload_n d_M_total_5 rfl ?_ | refine jm_aload_nN d_M_total_5 rfl ?_
  refine mr_callp (As := []) d_M_total_6 l_M_238 iw_M_state ew_M_state nv_M_state rfl (Nat.le_of_ble_eq_true rfl) (by omega : 1 + 1 ≤ _) (k_M_state (S := mu S 0 0 0) (by omega) hn h8 hp) hm ?_
  refine jm_iconstL (v := 1) d_M_total_9 (by decide) ?_
  refine jm_icmp_eq 15 d_M_total_10 (by decide) (fun hb10 => ?_) (fun hb10 => ?_)
  · refine jm_iconstL (v := 0) d_M_total_15 (by decide) ?_
    refine jm_istore_n d_M_total_16 (Nat.le_of_ble_eq_true rfl) ?_
    refine jm_iconstL (v := 0) d_M_total_17 (by decide) ?_
    refine jm_istore_n d_M_total_18 (Nat.le_of_ble_eq_true rfl) ?_
    have hs : S 2 0 ≠ 0 := fun q => by rw [show stF (mu S 0 0 0) n = 0 from if_pos q] at hb10; exact absurd hb10 (by decide)
    exact lp_M_total (S := mu S 0 0 0) hn h8 hs hp hm ⟨_, _, rfl, ⟨rfl, by rw [if_pos (show stF S n = 1 from hb10), sumF_mu]⟩, hm, hf⟩ n 0 (by omega)
  · refine jm_iconstL (v := -1) d_M_total_13 (by decide) ?_
    exact jm_iret d_M_total_14 rfl ⟨_, _, rfl, ⟨rfl, by rw [if_neg (show ¬ stF S n = 1 from hb10)]⟩, hm, hf⟩
/-- a letter's content, asked -/
def entF (S : mS) (k : Nat) (x : Int32) : Int32 :=
  if x < 10 ∨ ¬ 2 ≤ S 35 k then -1 else if S 35 k = 3 then (if 18 ≤ x then -1 else S 41 (256 * k + x.toNatClampNeg - 10))
  else if ¬ x - 10 < S 39 k then -1 else if S 41 (256 * k + x.toNatClampNeg - 10) = 1048576 then -2 else S 41 (256 * k + x.toNatClampNeg - 10)
theorem e_ix {k : Nat} {x : Int32} (hk : k < 21) (h10 : ¬ x < 10) (h266 : x < 266) : ∃ y, y < 256 ∧ (256 : Int32) * nI k + x - 10 = nI (256 * k + y) ∧ x.toNatClampNeg = y + 10 ∧ x = nI (y + 10) := by
  obtain ⟨z, hz, rfl⟩ := nI_of (x := x) (fun q => h10 (by simp only [Int32.lt_iff_toInt_lt, Int32.reduceToInt] at *; omega))
  rw [Int32.lt_iff_toInt_lt, nI_toInt hz] at h10 h266
  simp only [Int32.reduceToInt] at h10 h266
  refine ⟨z - 10, by omega, ?_, by rw [nI_clamp hz]; omega, by congr 1; omega⟩
  rw [show (256 : Int32) = nI 256 from rfl, pk_mul, nI_add, show (10 : Int32) = nI 10 from rfl, pk_sub (by omega)]
  congr 1
  omega
theorem k_M_entryOf {k : Nat} (hk : k < 20) (x : Int32) (hmx : 2 ≤ S 35 k → x - 10 < S 39 k → x < 266) : mA Γ m_M_entryOf d m ar [.int (nI k), .int x] S (some (.int (entF S k x))) := by
  intro h hm
  have hc := nI_clamp (show k < 2 ^ 31 by omega)
  refine jm_entry (by decide +kernel) (List.forall_mem_cons.mpr ⟨rfl, List.forall_mem_cons.mpr ⟨rfl, List.forall_mem_cons.mpr ⟨rfl, fun _ h => nomatch h⟩⟩⟩) (Nat.le_of_ble_eq_true rfl) ?_
  show jm_W _ _ _ _ _ _ 0 [some (.ref m), some (.int (nI k)), some (.int x), none] [] _
  refine jm_iload_n d_M_entryOf_0 rfl ?_
  refine jm_bipushL (v := 10) d_M_entryOf_1 (by decide) ?_
  refine jm_icmp_lt 16 d_M_entryOf_3 (by decide) (fun hb3 => ?_) (fun hb3 => ?_)
  · refine jm_iconstL (v := (-1)) d_M_entryOf_16 (by decide) ?_
    exact jm_iret d_M_entryOf_17 rfl ⟨rfl, by first | rw [entF, if_pos (Or.inl hb3)] | rw [entF, if_pos (Or.inr hb13)] | rw [entF, if_neg (fun q => q.elim hb3 (fun z => z hb13)), if_pos (Decidable.not_not.mp hb25), if_pos hb31] | rw [entF, if_neg (fun q => q.elim hb3 (fun z => z hb13)), if_pos (Decidable.not_not.mp hb25), if_neg hb31, y5] | rw [entF, if_neg (fun q => q.elim hb3 (fun z => z hb13)), if_neg hb25, if_pos hb64] | rw [entF, if_neg (fun q => q.elim hb3 (fun z => z hb13)), if_neg hb25, if_neg (fun q => q hb64), y5, if_neg hb88] | rw [entF, if_neg (fun q => q.elim hb3 (fun z => z hb13)), if_neg hb25, if_neg (fun q => q hb64), y5, if_pos (Decidable.not_not.mp hb88)]⟩
  · first | refine jm_aload_n d_M_entryOf_6 rfl ?_ | refine jm_aload_nN d_M_entryOf_6 rfl ?_
    refine mr_geta d_M_entryOf_7 f_M_95 hm (by decide) (by decide) ?_
    refine jm_iload_n d_M_entryOf_10 rfl ?_
    refine mr_ld _ d_M_entryOf_11 hm (by decide) (by decide) rfl (vp_in_nI (by show k < 21; omega) (by decide)) ?_
    rw [hc]
    refine jm_iconstL (v := 2) d_M_entryOf_12 (by decide) ?_
    refine jm_icmp_ge 18 d_M_entryOf_13 (by decide) (fun hb13 => ?_) (fun hb13 => ?_)
    · first | refine jm_aload_n d_M_entryOf_18 rfl ?_ | refine jm_aload_nN d_M_entryOf_18 rfl ?_
      refine mr_geta d_M_entryOf_19 f_M_95 hm (by decide) (by decide) ?_
      refine jm_iload_n d_M_entryOf_22 rfl ?_
      refine mr_ld _ d_M_entryOf_23 hm (by decide) (by decide) rfl (vp_in_nI (by show k < 21; omega) (by decide)) ?_
      rw [hc]
      refine jm_iconstL (v := 3) d_M_entryOf_24 (by decide) ?_
      refine jm_icmp_ne 54 d_M_entryOf_25 (by decide) (fun hb25 => ?_) (fun hb25 => ?_)
      · refine jm_iload_n d_M_entryOf_54 rfl ?_
        refine jm_bipushL (v := 10) d_M_entryOf_55 (by decide) ?_
        refine jm_isub d_M_entryOf_57 ?_
        first | refine jm_aload_n d_M_entryOf_58 rfl ?_ | refine jm_aload_nN d_M_entryOf_58 rfl ?_
        refine mr_geta d_M_entryOf_59 f_M_107 hm (by decide) (by decide) ?_
        refine jm_iload_n d_M_entryOf_62 rfl ?_
        refine mr_ld _ d_M_entryOf_63 hm (by decide) (by decide) rfl (vp_in_nI (by show k < 21; omega) (by decide)) ?_
        rw [hc]
        refine jm_icmp_lt 69 d_M_entryOf_64 (by decide) (fun hb64 => ?_) (fun hb64 => ?_)
        · first | refine jm_aload_n d_M_entryOf_69 rfl ?_ | refine jm_aload_nN d_M_entryOf_69 rfl ?_
          refine mr_geta d_M_entryOf_70 f_M_113 hm (by decide) (by decide) ?_
          refine jm_sipushL (v := 256) d_M_entryOf_73 (by decide) ?_
          refine jm_iload_n d_M_entryOf_76 rfl ?_
          refine jm_imul d_M_entryOf_77 ?_
          refine jm_iload_n d_M_entryOf_78 rfl ?_
          refine jm_iadd d_M_entryOf_79 ?_
          refine jm_bipushL (v := 10) d_M_entryOf_80 (by decide) ?_
          refine jm_isub d_M_entryOf_82 ?_
          obtain ⟨y, y1, y2, y3, y4⟩ := e_ix (k := k) (x := x) (by omega) hb3 (hmx hb13 hb64)
          have y5 : 256 * k + x.toNatClampNeg - 10 = 256 * k + y := by omega
          rw [y2]
          refine mr_ld _ d_M_entryOf_83 hm (by decide) (by decide) rfl (vp_in_nI (by show 256 * k + y < 5376; omega) (by decide)) ?_
          rw [nI_clamp (show 256 * k + y < 2 ^ 31 by omega)]
          refine jm_istore_n d_M_entryOf_84 (Nat.le_of_ble_eq_true rfl) ?_
          refine jm_iload_n d_M_entryOf_85 rfl ?_
          refine jm_ldc d_M_entryOf_86 k_M_145 ?_
          refine jm_icmp_ne 96 d_M_entryOf_88 (by decide) (fun hb88 => ?_) (fun hb88 => ?_)
          · refine jm_iload_n d_M_entryOf_96 rfl ?_
            exact jm_iret d_M_entryOf_97 rfl ⟨rfl, by first | rw [entF, if_pos (Or.inl hb3)] | rw [entF, if_pos (Or.inr hb13)] | rw [entF, if_neg (fun q => q.elim hb3 (fun z => z hb13)), if_pos (Decidable.not_not.mp hb25), if_pos hb31] | rw [entF, if_neg (fun q => q.elim hb3 (fun z => z hb13)), if_pos (Decidable.not_not.mp hb25), if_neg hb31, y5] | rw [entF, if_neg (fun q => q.elim hb3 (fun z => z hb13)), if_neg hb25, if_pos hb64] | rw [entF, if_neg (fun q => q.elim hb3 (fun z => z hb13)), if_neg hb25, if_neg (fun q => q hb64), y5, if_neg hb88] | rw [entF, if_neg (fun q => q.elim hb3 (fun z => z hb13)), if_neg hb25, if_neg (fun q => q hb64), y5, if_pos (Decidable.not_not.mp hb88)]⟩
          · refine jm_bipushL (v := (-2)) d_M_entryOf_91 (by decide) ?_
            refine jm_goto 97 d_M_entryOf_93 (by decide) ?_
            exact jm_iret d_M_entryOf_97 rfl ⟨rfl, by first | rw [entF, if_pos (Or.inl hb3)] | rw [entF, if_pos (Or.inr hb13)] | rw [entF, if_neg (fun q => q.elim hb3 (fun z => z hb13)), if_pos (Decidable.not_not.mp hb25), if_pos hb31] | rw [entF, if_neg (fun q => q.elim hb3 (fun z => z hb13)), if_pos (Decidable.not_not.mp hb25), if_neg hb31, y5] | rw [entF, if_neg (fun q => q.elim hb3 (fun z => z hb13)), if_neg hb25, if_pos hb64] | rw [entF, if_neg (fun q => q.elim hb3 (fun z => z hb13)), if_neg hb25, if_neg (fun q => q hb64), y5, if_neg hb88] | rw [entF, if_neg (fun q => q.elim hb3 (fun z => z hb13)), if_neg hb25, if_neg (fun q => q hb64), y5, if_pos (Decidable.not_not.mp hb88)]⟩
        · refine jm_iconstL (v := (-1)) d_M_entryOf_67 (by decide) ?_
          exact jm_iret d_M_entryOf_68 rfl ⟨rfl, by first | rw [entF, if_pos (Or.inl hb3)] | rw [entF, if_pos (Or.inr hb13)] | rw [entF, if_neg (fun q => q.elim hb3 (fun z => z hb13)), if_pos (Decidable.not_not.mp hb25), if_pos hb31] | rw [entF, if_neg (fun q => q.elim hb3 (fun z => z hb13)), if_pos (Decidable.not_not.mp hb25), if_neg hb31, y5] | rw [entF, if_neg (fun q => q.elim hb3 (fun z => z hb13)), if_neg hb25, if_pos hb64] | rw [entF, if_neg (fun q => q.elim hb3 (fun z => z hb13)), if_neg hb25, if_neg (fun q => q hb64), y5, if_neg hb88] | rw [entF, if_neg (fun q => q.elim hb3 (fun z => z hb13)), if_neg hb25, if_neg (fun q => q hb64), y5, if_pos (Decidable.not_not.mp hb88)]⟩
      · refine jm_iload_n d_M_entryOf_28 rfl ?_
        refine jm_bipushL (v := 18) d_M_entryOf_29 (by decide) ?_
        refine jm_icmp_ge 52 d_M_entryOf_31 (by decide) (fun hb31 => ?_) (fun hb31 => ?_)
        · refine jm_iconstL (v := (-1)) d_M_entryOf_52 (by decide) ?_
          exact jm_iret d_M_entryOf_53 rfl ⟨rfl, by first | rw [entF, if_pos (Or.inl hb3)] | rw [entF, if_pos (Or.inr hb13)] | rw [entF, if_neg (fun q => q.elim hb3 (fun z => z hb13)), if_pos (Decidable.not_not.mp hb25), if_pos hb31] | rw [entF, if_neg (fun q => q.elim hb3 (fun z => z hb13)), if_pos (Decidable.not_not.mp hb25), if_neg hb31, y5] | rw [entF, if_neg (fun q => q.elim hb3 (fun z => z hb13)), if_neg hb25, if_pos hb64] | rw [entF, if_neg (fun q => q.elim hb3 (fun z => z hb13)), if_neg hb25, if_neg (fun q => q hb64), y5, if_neg hb88] | rw [entF, if_neg (fun q => q.elim hb3 (fun z => z hb13)), if_neg hb25, if_neg (fun q => q hb64), y5, if_pos (Decidable.not_not.mp hb88)]⟩
        · first | refine jm_aload_n d_M_entryOf_34 rfl ?_ | refine jm_aload_nN d_M_entryOf_34 rfl ?_
          refine mr_geta d_M_entryOf_35 f_M_113 hm (by decide) (by decide) ?_
          refine jm_sipushL (v := 256) d_M_entryOf_38 (by decide) ?_
          refine jm_iload_n d_M_entryOf_41 rfl ?_
          refine jm_imul d_M_entryOf_42 ?_
          refine jm_iload_n d_M_entryOf_43 rfl ?_
          refine jm_iadd d_M_entryOf_44 ?_
          refine jm_bipushL (v := 10) d_M_entryOf_45 (by decide) ?_
          refine jm_isub d_M_entryOf_47 ?_
          obtain ⟨y, y1, y2, y3, y4⟩ := e_ix (k := k) (x := x) (by omega) hb3 (by simp only [Int32.lt_iff_toInt_lt, Int32.le_iff_toInt_le, Int32.reduceToInt] at *; omega)
          have y5 : 256 * k + x.toNatClampNeg - 10 = 256 * k + y := by omega
          rw [y2]
          refine mr_ld _ d_M_entryOf_48 hm (by decide) (by decide) rfl (vp_in_nI (by show 256 * k + y < 5376; omega) (by decide)) ?_
          rw [nI_clamp (show 256 * k + y < 2 ^ 31 by omega)]
          refine jm_goto 53 d_M_entryOf_49 (by decide) ?_
          exact jm_iret d_M_entryOf_53 rfl ⟨rfl, by first | rw [entF, if_pos (Or.inl hb3)] | rw [entF, if_pos (Or.inr hb13)] | rw [entF, if_neg (fun q => q.elim hb3 (fun z => z hb13)), if_pos (Decidable.not_not.mp hb25), if_pos hb31] | rw [entF, if_neg (fun q => q.elim hb3 (fun z => z hb13)), if_pos (Decidable.not_not.mp hb25), if_neg hb31, y5] | rw [entF, if_neg (fun q => q.elim hb3 (fun z => z hb13)), if_neg hb25, if_pos hb64] | rw [entF, if_neg (fun q => q.elim hb3 (fun z => z hb13)), if_neg hb25, if_neg (fun q => q hb64), y5, if_neg hb88] | rw [entF, if_neg (fun q => q.elim hb3 (fun z => z hb13)), if_neg hb25, if_neg (fun q => q hb64), y5, if_pos (Decidable.not_not.mp hb88)]⟩
    · refine jm_iconstL (v := (-1)) d_M_entryOf_16 (by decide) ?_
      exact jm_iret d_M_entryOf_17 rfl ⟨rfl, by first | rw [entF, if_pos (Or.inl hb3)] | rw [entF, if_pos (Or.inr hb13)] | rw [entF, if_neg (fun q => q.elim hb3 (fun z => z hb13)), if_pos (Decidable.not_not.mp hb25), if_pos hb31] | rw [entF, if_neg (fun q => q.elim hb3 (fun z => z hb13)), if_pos (Decidable.not_not.mp hb25), if_neg hb31, y5] | rw [entF, if_neg (fun q => q.elim hb3 (fun z => z hb13)), if_neg hb25, if_pos hb64] | rw [entF, if_neg (fun q => q.elim hb3 (fun z => z hb13)), if_neg hb25, if_neg (fun q => q hb64), y5, if_neg hb88] | rw [entF, if_neg (fun q => q.elim hb3 (fun z => z hb13)), if_neg hb25, if_neg (fun q => q hb64), y5, if_pos (Decidable.not_not.mp hb88)]⟩
def toldF (S : mS) (nl : Nat) (k x : Int32) : Int32 :=
  if ¬ (0 ≤ k ∧ k ≤ S 34 0 - 1) then -1 else if x = 0 then S 35 k.toNatClampNeg else if x = 1 then S 36 k.toNatClampNeg else if x = 2 then S 37 k.toNatClampNeg else if x = 3 then S 38 k.toNatClampNeg else if x = 4 then S 39 k.toNatClampNeg else entF S k.toNatClampNeg x
theorem lt_ix {nl : Nat} (hn : S 34 0 = nI nl) (h20 : nl ≤ 20) {k : Int32} (hk : 0 ≤ k ∧ k ≤ S 34 0 - 1) : ∃ q, q < nl ∧ k = nI q := by
  obtain ⟨h1, h2⟩ := hk
  rw [hn] at h2
  rcases pk_ix k (n := nl) (by omega) with q | q | q
  · simp only [Int32.lt_iff_toInt_lt, Int32.le_iff_toInt_le] at *
    omega
  · exfalso
    cases nl with
    | zero => simp only [Int32.le_iff_toInt_le] at *; rw [show (nI 0 - 1).toInt = -1 by decide] at h2; rw [show (0 : Int32).toInt = 0 by decide] at h1; omega
    | succ n =>
      rw [nI_pred] at h2
      simp only [Int32.le_iff_toInt_le] at *
      rw [nI_toInt (by omega)] at h2 q
      omega
  · exact q
theorem entF_mu {t : Int32} {k : Nat} {x : Int32} : entF (mu S 0 0 t) k x = entF S k x := rfl
theorem k_M_told {nl : Nat} (hd : 1 ≤ d) (hn : S 34 0 = nI nl) (h20 : nl ≤ 20) (k x : Int32) (hmx : ∀ q, q < nl → 2 ≤ S 35 q → x - 10 < S 39 q → x < 266) : mM Γ m_M_told d m ar [.int k, .int x] S (fun v9 S' => S' = mu S 0 0 0 ∧ v9 = some (.int (toldF S nl k x))) := by
  intro h hm
  have hf : mo_fr m ar h h := mo_fr.rf
  refine jm_entry (by decide +kernel) (List.forall_mem_cons.mpr ⟨rfl, List.forall_mem_cons.mpr ⟨rfl, List.forall_mem_cons.mpr ⟨rfl, fun _ h => nomatch h⟩⟩⟩) (Nat.le_of_ble_eq_true rfl) ?_
  show jm_W _ _ _ _ _ _ 0 [some (.ref m), some (.int k), some (.int x)] [] _
  first | refine jm_aload_n d_M_told_0 rfl ?_ | refine jm_aload_nN d_M_told_0 rfl ?_
  refine jm_iconstL (v := 0) d_M_told_1 (by decide) ?_
  refine mr_puti d_M_told_2 f_M_116 hm hf (by decide) rfl (fun h hm hf => ?_)
  refine jm_iload_n d_M_told_5 rfl ?_
  refine jm_iconstL (v := 0) d_M_told_6 (by decide) ?_
  first | refine jm_aload_n d_M_told_7 rfl ?_ | refine jm_aload_nN d_M_told_7 rfl ?_
  refine mr_geti d_M_told_8 f_M_176 hm (by decide) rfl ?_
  refine jm_iconstL (v := 1) d_M_told_11 (by decide) ?_
  refine jm_isub d_M_told_12 ?_
  refine jm_callSp (As := [_, _, _]) d_M_told_13 l_M_127 sw_M_within nv_M_within rfl (Nat.le_of_ble_eq_true rfl) (by omega : 0 + 1 ≤ _) (k_M_within _ _ _) ?_
  first | refine jm_bz_ne 21 d_M_told_16 (by decide) (fun hb16 => ?_) (fun hb16 => ?_) | refine jm_if_ne 21 d_M_told_16 (by decide) (fun hb16 => ?_) (fun hb16 => ?_)
  · obtain ⟨q, hq, rfl⟩ := lt_ix (S := mu S 0 0 0) hn h20 hb16
    refine jm_iload_n d_M_told_21 rfl ?_
    by_cases sw22_0 : x = 0
    · subst sw22_0
      refine jm_tableIn 56 d_M_told_22 (by decide) (by decide) rfl (by decide) ?_
      first | refine jm_aload_n d_M_told_56 rfl ?_ | refine jm_aload_nN d_M_told_56 rfl ?_
      refine mr_geta d_M_told_57 f_M_95 hm (by decide) (by decide) ?_
      refine jm_iload_n d_M_told_60 rfl ?_
      refine mr_ld _ d_M_told_61 hm (by decide) (by decide) rfl (vp_in_nI (by show q < 21; omega) (by decide)) ?_
      exact jm_iret d_M_told_62 rfl ⟨_, _, rfl, ⟨rfl, by rw [toldF, if_neg (show ¬ ¬ (0 ≤ nI q ∧ nI q ≤ S 34 0 - 1) from fun z => z hb16)]; first | rfl | (simp; done) | (simp; rfl)⟩, hm, hf⟩
    by_cases sw22_1 : x = 1
    · subst sw22_1
      refine jm_tableIn 63 d_M_told_22 (by decide) (by decide) rfl (by decide) ?_
      first | refine jm_aload_n d_M_told_63 rfl ?_ | refine jm_aload_nN d_M_told_63 rfl ?_
      refine mr_geta d_M_told_64 f_M_98 hm (by decide) (by decide) ?_
      refine jm_iload_n d_M_told_67 rfl ?_
      refine mr_ld _ d_M_told_68 hm (by decide) (by decide) rfl (vp_in_nI (by show q < 21; omega) (by decide)) ?_
      exact jm_iret d_M_told_69 rfl ⟨_, _, rfl, ⟨rfl, by rw [toldF, if_neg (show ¬ ¬ (0 ≤ nI q ∧ nI q ≤ S 34 0 - 1) from fun z => z hb16)]; first | rfl | (simp; done) | (simp; rfl)⟩, hm, hf⟩
    by_cases sw22_2 : x = 2
    · subst sw22_2
      refine jm_tableIn 70 d_M_told_22 (by decide) (by decide) rfl (by decide) ?_
      first | refine jm_aload_n d_M_told_70 rfl ?_ | refine jm_aload_nN d_M_told_70 rfl ?_
      refine mr_geta d_M_told_71 f_M_101 hm (by decide) (by decide) ?_
      refine jm_iload_n d_M_told_74 rfl ?_
      refine mr_ld _ d_M_told_75 hm (by decide) (by decide) rfl (vp_in_nI (by show q < 21; omega) (by decide)) ?_
      exact jm_iret d_M_told_76 rfl ⟨_, _, rfl, ⟨rfl, by rw [toldF, if_neg (show ¬ ¬ (0 ≤ nI q ∧ nI q ≤ S 34 0 - 1) from fun z => z hb16)]; first | rfl | (simp; done) | (simp; rfl)⟩, hm, hf⟩
    by_cases sw22_3 : x = 3
    · subst sw22_3
      refine jm_tableIn 77 d_M_told_22 (by decide) (by decide) rfl (by decide) ?_
      first | refine jm_aload_n d_M_told_77 rfl ?_ | refine jm_aload_nN d_M_told_77 rfl ?_
      refine mr_geta d_M_told_78 f_M_104 hm (by decide) (by decide) ?_
      refine jm_iload_n d_M_told_81 rfl ?_
      refine mr_ld _ d_M_told_82 hm (by decide) (by decide) rfl (vp_in_nI (by show q < 21; omega) (by decide)) ?_
      exact jm_iret d_M_told_83 rfl ⟨_, _, rfl, ⟨rfl, by rw [toldF, if_neg (show ¬ ¬ (0 ≤ nI q ∧ nI q ≤ S 34 0 - 1) from fun z => z hb16)]; first | rfl | (simp; done) | (simp; rfl)⟩, hm, hf⟩
    by_cases sw22_4 : x = 4
    · subst sw22_4
      refine jm_tableIn 84 d_M_told_22 (by decide) (by decide) rfl (by decide) ?_
      first | refine jm_aload_n d_M_told_84 rfl ?_ | refine jm_aload_nN d_M_told_84 rfl ?_
      refine mr_geta d_M_told_85 f_M_107 hm (by decide) (by decide) ?_
      refine jm_iload_n d_M_told_88 rfl ?_
      refine mr_ld _ d_M_told_89 hm (by decide) (by decide) rfl (vp_in_nI (by show q < 21; omega) (by decide)) ?_
      exact jm_iret d_M_told_90 rfl ⟨_, _, rfl, ⟨rfl, by rw [toldF, if_neg (show ¬ ¬ (0 ≤ nI q ∧ nI q ≤ S 34 0 - 1) from fun z => z hb16)]; first | rfl | (simp; done) | (simp; rfl)⟩, hm, hf⟩
    refine jm_tableOut 91 d_M_told_22 (by simp only [← Int32.toInt_inj, Int32.reduceToInt] at sw22_0 sw22_1 sw22_2 sw22_3 sw22_4; omega) (by decide) ?_
    first | refine jm_aload_n d_M_told_91 rfl ?_ | refine jm_aload_nN d_M_told_91 rfl ?_
    refine jm_iload_n d_M_told_92 rfl ?_
    refine jm_iload_n d_M_told_93 rfl ?_
    refine mr_callp (As := [_, _]) d_M_told_94 l_M_229 iw_M_entryOf ew_M_entryOf nv_M_entryOf rfl (Nat.le_of_ble_eq_true rfl) (by omega : 0 + 1 ≤ _) (k_M_entryOf (S := mu S 0 0 0) (by omega) x (hmx q hq)) hm ?_
    exact jm_iret d_M_told_97 rfl ⟨_, _, rfl, ⟨rfl, by rw [toldF, if_neg (show ¬ ¬ (0 ≤ nI q ∧ nI q ≤ S 34 0 - 1) from fun z => z hb16), if_neg sw22_0, if_neg sw22_1, if_neg sw22_2, if_neg sw22_3, if_neg sw22_4, nI_clamp (show q < 2 ^ 31 by omega), entF_mu]⟩, hm, hf⟩
  · refine jm_iconstL (v := -1) d_M_told_19 (by decide) ?_
    exact jm_iret d_M_told_20 rfl ⟨_, _, rfl, ⟨rfl, by rw [toldF, if_pos (show ¬ (0 ≤ k ∧ k ≤ S 34 0 - 1) from hb16)]⟩, hm, hf⟩
end
