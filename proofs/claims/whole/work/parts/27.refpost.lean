/-! THE REFERENCE: bits, order, letters. Written by wip/whole/gen/p27.py -/
section
variable {Γ : jm_G} {d m : Nat} {ar : Nat → Nat} {S : mS} {h : jm_H}
abbrev cI (x a : Int32) : Prop := (x >>> (a &&& 31)) &&& 1 = 1
def bitsF (x : Int32) : Nat → Int32
  | 0 => 0
  | k + 1 => if cI x (nI k) then bitsF x k + 1 else bitsF x k
theorem lp_M_bits {rc rs : Nat} (hd : 1 ≤ d) (x : Int32) : ∀ j k, k + j = 8 → jm_W Γ m_M_bits d rc rs (fun oc h' => h' = h ∧ oc = .inl (some (.int (bitsF x 8)))) 4 [some (.int x), some (.int (bitsF x k)), some (.int (nI k))] [] h := by
  intro j
  induction j with
  | zero =>
    intro k hk
    have hk' : k = 8 := by omega
    subst hk'
    refine jm_iload_n d_M_bits_4 rfl ?_
    refine jm_bipushL (v := 8) d_M_bits_5 (by decide) ?_
    refine jm_icmp_ge 32 d_M_bits_7 (by decide) (fun hb7 => ?_) (fun hb7 => ?_)
    · refine jm_iload_n d_M_bits_32 rfl ?_
      exact jm_iret d_M_bits_33 rfl ⟨rfl, rfl⟩
    · exact absurd (by decide) hb7
  | succ j ih =>
    intro k hk
    refine jm_iload_n d_M_bits_4 rfl ?_
    refine jm_bipushL (v := 8) d_M_bits_5 (by decide) ?_
    refine jm_icmp_ge 32 d_M_bits_7 (by decide) (fun hb7 => ?_) (fun hb7 => ?_)
    · exact absurd hb7 (nI_ge (b := 8) (by omega) (by decide))
    · refine jm_iload_n d_M_bits_10 rfl ?_
      refine jm_iload_n d_M_bits_11 rfl ?_
      refine jm_callSp (As := [_, _]) d_M_bits_12 l_M_120 sw_M_has nv_M_has rfl (Nat.le_of_ble_eq_true rfl) (by omega : 0 + 1 ≤ _) (k_M_has _ _) ?_
      first | refine jm_bz_eq 24 d_M_bits_15 (by decide) (fun hb15 => ?_) (fun hb15 => ?_) | refine jm_if_eq 24 d_M_bits_15 (by decide) (fun hb15 => ?_) (fun hb15 => ?_)
      · refine jm_iload_n d_M_bits_24 rfl ?_
        refine jm_istore_n d_M_bits_25 (Nat.le_of_ble_eq_true rfl) ?_
        refine jm_iincL (v := nI (k + 1)) d_M_bits_26 rfl (by rw [nI_succ]; rfl) ?_
        refine jm_goto 4 d_M_bits_29 (by decide) ?_
        have e9 := ih (k + 1) (by omega)
        first | rw [show bitsF x (k + 1) = bitsF x k from if_neg hb15] at e9 | rw [show bitsF x (k + 1) = bitsF x k + 1 from if_pos hb15] at e9
        exact e9
      · refine jm_iload_n d_M_bits_18 rfl ?_
        refine jm_iconstL (v := 1) d_M_bits_19 (by decide) ?_
        refine jm_iadd d_M_bits_20 ?_
        refine jm_goto 25 d_M_bits_21 (by decide) ?_
        refine jm_istore_n d_M_bits_25 (Nat.le_of_ble_eq_true rfl) ?_
        refine jm_iincL (v := nI (k + 1)) d_M_bits_26 rfl (by rw [nI_succ]; rfl) ?_
        refine jm_goto 4 d_M_bits_29 (by decide) ?_
        have e9 := ih (k + 1) (by omega)
        first | rw [show bitsF x (k + 1) = bitsF x k from if_neg hb15] at e9 | rw [show bitsF x (k + 1) = bitsF x k + 1 from if_pos hb15] at e9
        exact e9
theorem k_M_bits (hd : 1 ≤ d) (x : Int32) : jm_A Γ m_M_bits d [.int x] h (some (.int (bitsF x 8))) := by
  refine jm_entry (by decide +kernel) (List.forall_mem_cons.mpr ⟨rfl, fun _ h => nomatch h⟩) (Nat.le_of_ble_eq_true rfl) ?_
  show jm_W _ _ _ _ _ _ 0 [some (.int x), none, none] [] _
  refine jm_iconstL (v := 0) d_M_bits_0 (by decide) ?_
  refine jm_istore_n d_M_bits_1 (Nat.le_of_ble_eq_true rfl) ?_
  refine jm_iconstL (v := 0) d_M_bits_2 (by decide) ?_
  refine jm_istore_n d_M_bits_3 (Nat.le_of_ble_eq_true rfl) ?_
  exact lp_M_bits hd x 8 0 (by omega)
/-- a goes before b -/
abbrev gbS (S : mS) (a b : Int32) : Prop := ¬ 0 ≤ b ∨ (bitsF (S 9 b.toNatClampNeg) 8 < bitsF (S 9 a.toNatClampNeg) 8 ∨ (bitsF (S 9 a.toNatClampNeg) 8 = bitsF (S 9 b.toNatClampNeg) 8 ∧ a < b))
theorem k_M_goesBefore (hd : 2 ≤ d) (a b : Int32) (ha : vp_in a 8) (hb : 0 ≤ b → vp_in b 8) : mA Γ m_M_goesBefore d m ar [.int a, .int b] S (some (.int (if gbS S a b then 1 else 0))) := by
  intro h hm
  refine jm_entry (by decide +kernel) (List.forall_mem_cons.mpr ⟨rfl, List.forall_mem_cons.mpr ⟨rfl, List.forall_mem_cons.mpr ⟨rfl, fun _ h => nomatch h⟩⟩⟩) (Nat.le_of_ble_eq_true rfl) ?_
  show jm_W _ _ _ _ _ _ 0 [some (.ref m), some (.int a), some (.int b), none, none] [] _
  refine jm_iload_n d_M_goesBefore_0 rfl ?_
  refine jm_if_ge 6 d_M_goesBefore_1 (by decide) (fun hb1 => ?_) (fun hb1 => ?_)
  · first | refine jm_aload_n d_M_goesBefore_6 rfl ?_ | refine jm_aload_nN d_M_goesBefore_6 rfl ?_
    refine mr_geta d_M_goesBefore_7 f_M_25 hm (by decide) (by decide) ?_
    refine jm_iload_n d_M_goesBefore_10 rfl ?_
    refine mr_ld _ d_M_goesBefore_11 hm (by decide) (by decide) rfl ha ?_
    refine jm_callSp (As := [_]) d_M_goesBefore_12 l_M_161 sw_M_bits nv_M_bits rfl (Nat.le_of_ble_eq_true rfl) (by omega : 1 + 1 ≤ _) (k_M_bits (by omega) _) ?_
    refine jm_istore_n d_M_goesBefore_15 (Nat.le_of_ble_eq_true rfl) ?_
    first | refine jm_aload_n d_M_goesBefore_16 rfl ?_ | refine jm_aload_nN d_M_goesBefore_16 rfl ?_
    refine mr_geta d_M_goesBefore_17 f_M_25 hm (by decide) (by decide) ?_
    refine jm_iload_n d_M_goesBefore_20 rfl ?_
    refine mr_ld _ d_M_goesBefore_21 hm (by decide) (by decide) rfl (hb hb1) ?_
    refine jm_callSp (As := [_]) d_M_goesBefore_22 l_M_161 sw_M_bits nv_M_bits rfl (Nat.le_of_ble_eq_true rfl) (by omega : 1 + 1 ≤ _) (k_M_bits (by omega) _) ?_
    refine jm_istore d_M_goesBefore_25 (Nat.le_of_ble_eq_true rfl) ?_
    refine jm_iload_n d_M_goesBefore_27 rfl ?_
    refine jm_iload d_M_goesBefore_28 rfl ?_
    refine jm_icmp_gt 44 d_M_goesBefore_30 (by decide) (fun hb30 => ?_) (fun hb30 => ?_)
    · refine jm_iconstL (v := 1) d_M_goesBefore_44 (by decide) ?_
      refine jm_goto 49 d_M_goesBefore_45 (by decide) ?_
      exact jm_zret d_M_goesBefore_49 rfl rfl ⟨rfl, by first | rw [if_pos (show gbS S a b from Or.inr (Or.inl hb30))] | rw [if_pos (show gbS S a b from Or.inr (Or.inr ⟨Decidable.not_not.mp hb36, Int32.not_le.mp hb41⟩))]⟩
    · refine jm_iload_n d_M_goesBefore_33 rfl ?_
      refine jm_iload d_M_goesBefore_34 rfl ?_
      refine jm_icmp_ne 48 d_M_goesBefore_36 (by decide) (fun hb36 => ?_) (fun hb36 => ?_)
      · refine jm_iconstL (v := 0) d_M_goesBefore_48 (by decide) ?_
        exact jm_zret d_M_goesBefore_49 rfl rfl ⟨rfl, by first | rw [if_neg (show ¬ gbS S a b from fun q => by rcases q with q | q | q; exact q hb1; exact hb30 q; exact hb36 q.1)] | rw [if_neg (show ¬ gbS S a b from fun q => by rcases q with q | q | q; exact q hb1; exact hb30 q; exact absurd q.2 (Int32.not_lt.mpr hb41))]⟩
      · refine jm_iload_n d_M_goesBefore_39 rfl ?_
        refine jm_iload_n d_M_goesBefore_40 rfl ?_
        refine jm_icmp_ge 48 d_M_goesBefore_41 (by decide) (fun hb41 => ?_) (fun hb41 => ?_)
        · refine jm_iconstL (v := 0) d_M_goesBefore_48 (by decide) ?_
          exact jm_zret d_M_goesBefore_49 rfl rfl ⟨rfl, by first | rw [if_neg (show ¬ gbS S a b from fun q => by rcases q with q | q | q; exact q hb1; exact hb30 q; exact hb36 q.1)] | rw [if_neg (show ¬ gbS S a b from fun q => by rcases q with q | q | q; exact q hb1; exact hb30 q; exact absurd q.2 (Int32.not_lt.mpr hb41))]⟩
        · refine jm_iconstL (v := 1) d_M_goesBefore_44 (by decide) ?_
          refine jm_goto 49 d_M_goesBefore_45 (by decide) ?_
          exact jm_zret d_M_goesBefore_49 rfl rfl ⟨rfl, by first | rw [if_pos (show gbS S a b from Or.inr (Or.inl hb30))] | rw [if_pos (show gbS S a b from Or.inr (Or.inr ⟨Decidable.not_not.mp hb36, Int32.not_le.mp hb41⟩))]⟩
  · refine jm_iconstL (v := 1) d_M_goesBefore_4 (by decide) ?_
    exact jm_zret d_M_goesBefore_5 rfl rfl ⟨rfl, by rw [if_pos (show gbS S a b from Or.inl hb1)]⟩
/-- a letter is laid down -/
def postS (S : mS) (w a b x : Int32) : mS := mu (mu (mu (mu (mu (mu (mu S 35 (S 34 0).toNatClampNeg w) 36 (S 34 0).toNatClampNeg a) 37 (S 34 0).toNatClampNeg b) 38 (S 34 0).toNatClampNeg x) 39 (S 34 0).toNatClampNeg 0) 40 (S 34 0).toNatClampNeg 0) 34 0 (S 34 0 + 1)
theorem k_M_post {nl : Nat} (hn : S 34 0 = nI nl) (h20 : nl ≤ 20) (w a b x : Int32) : mM Γ m_M_post d m ar [.int w, .int a, .int b, .int x] S (fun v9 S' => (S 34 0 = 20 ∧ S' = S ∧ v9 = some (.int (-1))) ∨ (S 34 0 ≠ 20 ∧ S' = postS S w a b x ∧ v9 = some (.int (S 34 0)))) := by
  intro h hm
  have hf : mo_fr m ar h h := mo_fr.rf
  have hv : vp_in (S 34 0) 21 := by rw [hn]; exact vp_in_nI (by omega) (by decide)
  refine jm_entry (by decide +kernel) (List.forall_mem_cons.mpr ⟨rfl, List.forall_mem_cons.mpr ⟨rfl, List.forall_mem_cons.mpr ⟨rfl, List.forall_mem_cons.mpr ⟨rfl, List.forall_mem_cons.mpr ⟨rfl, fun _ h => nomatch h⟩⟩⟩⟩⟩) (Nat.le_of_ble_eq_true rfl) ?_
  show jm_W _ _ _ _ _ _ 0 [some (.ref m), some (.int w), some (.int a), some (.int b), some (.int x)] [] _
  first | refine jm_aload_n d_M_post_0 rfl ?_ | refine jm_aload_nN d_M_post_0 rfl ?_
  refine mr_geti d_M_post_1 f_M_176 hm (by decide) rfl ?_
  refine jm_bipushL (v := 20) d_M_post_4 (by decide) ?_
  refine jm_icmp_ne 11 d_M_post_6 (by decide) (fun hb6 => ?_) (fun hb6 => ?_)
  · first | refine jm_aload_n d_M_post_11 rfl ?_ | refine jm_aload_nN d_M_post_11 rfl ?_
    refine mr_geta d_M_post_12 f_M_95 hm (by decide) (by decide) ?_
    first | refine jm_aload_n d_M_post_15 rfl ?_ | refine jm_aload_nN d_M_post_15 rfl ?_
    refine mr_geti d_M_post_16 f_M_176 hm (by decide) rfl ?_
    refine jm_iload_n d_M_post_19 rfl ?_
    refine mr_st _ d_M_post_20 hm hf (by decide) (by decide) rfl hv (fun h hm hf => ?_)
    first | refine jm_aload_n d_M_post_21 rfl ?_ | refine jm_aload_nN d_M_post_21 rfl ?_
    refine mr_geta d_M_post_22 f_M_98 hm (by decide) (by decide) ?_
    first | refine jm_aload_n d_M_post_25 rfl ?_ | refine jm_aload_nN d_M_post_25 rfl ?_
    refine mr_geti d_M_post_26 f_M_176 hm (by decide) rfl ?_
    refine jm_iload_n d_M_post_29 rfl ?_
    refine mr_st _ d_M_post_30 hm hf (by decide) (by decide) rfl hv (fun h hm hf => ?_)
    first | refine jm_aload_n d_M_post_31 rfl ?_ | refine jm_aload_nN d_M_post_31 rfl ?_
    refine mr_geta d_M_post_32 f_M_101 hm (by decide) (by decide) ?_
    first | refine jm_aload_n d_M_post_35 rfl ?_ | refine jm_aload_nN d_M_post_35 rfl ?_
    refine mr_geti d_M_post_36 f_M_176 hm (by decide) rfl ?_
    refine jm_iload_n d_M_post_39 rfl ?_
    refine mr_st _ d_M_post_40 hm hf (by decide) (by decide) rfl hv (fun h hm hf => ?_)
    first | refine jm_aload_n d_M_post_41 rfl ?_ | refine jm_aload_nN d_M_post_41 rfl ?_
    refine mr_geta d_M_post_42 f_M_104 hm (by decide) (by decide) ?_
    first | refine jm_aload_n d_M_post_45 rfl ?_ | refine jm_aload_nN d_M_post_45 rfl ?_
    refine mr_geti d_M_post_46 f_M_176 hm (by decide) rfl ?_
    refine jm_iload d_M_post_49 rfl ?_
    refine mr_st _ d_M_post_51 hm hf (by decide) (by decide) rfl hv (fun h hm hf => ?_)
    first | refine jm_aload_n d_M_post_52 rfl ?_ | refine jm_aload_nN d_M_post_52 rfl ?_
    refine mr_geta d_M_post_53 f_M_107 hm (by decide) (by decide) ?_
    first | refine jm_aload_n d_M_post_56 rfl ?_ | refine jm_aload_nN d_M_post_56 rfl ?_
    refine mr_geti d_M_post_57 f_M_176 hm (by decide) rfl ?_
    refine jm_iconstL (v := 0) d_M_post_60 (by decide) ?_
    refine mr_st _ d_M_post_61 hm hf (by decide) (by decide) rfl hv (fun h hm hf => ?_)
    first | refine jm_aload_n d_M_post_62 rfl ?_ | refine jm_aload_nN d_M_post_62 rfl ?_
    refine mr_geta d_M_post_63 f_M_110 hm (by decide) (by decide) ?_
    first | refine jm_aload_n d_M_post_66 rfl ?_ | refine jm_aload_nN d_M_post_66 rfl ?_
    refine mr_geti d_M_post_67 f_M_176 hm (by decide) rfl ?_
    refine jm_iconstL (v := 0) d_M_post_70 (by decide) ?_
    refine mr_st _ d_M_post_71 hm hf (by decide) (by decide) rfl hv (fun h hm hf => ?_)
    first | refine jm_aload_n d_M_post_72 rfl ?_ | refine jm_aload_nN d_M_post_72 rfl ?_
    refine jm_dup d_M_post_73 rfl ?_
    refine mr_geti d_M_post_74 f_M_176 hm (by decide) rfl ?_
    refine jm_iconstL (v := 1) d_M_post_77 (by decide) ?_
    refine jm_iadd d_M_post_78 ?_
    refine mr_puti d_M_post_79 f_M_176 hm hf (by decide) rfl (fun h hm hf => ?_)
    first | refine jm_aload_n d_M_post_82 rfl ?_ | refine jm_aload_nN d_M_post_82 rfl ?_
    refine mr_geti d_M_post_83 f_M_176 hm (by decide) rfl ?_
    refine jm_iconstL (v := 1) d_M_post_86 (by decide) ?_
    refine jm_isub d_M_post_87 ?_
    exact jm_iret d_M_post_88 rfl ⟨_, _, rfl, Or.inr ⟨hb6, rfl, by show some (Value.int (S 34 0 + 1 - 1)) = _; rw [Int32.add_sub_cancel]⟩, hm, hf⟩
  · refine jm_iconstL (v := -1) d_M_post_9 (by decide) ?_
    exact jm_iret d_M_post_10 rfl ⟨_, _, rfl, Or.inl ⟨Decidable.not_not.mp hb6, rfl, rfl⟩, hm, hf⟩
end
