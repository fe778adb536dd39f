/-! THE REFERENCE: hasAll, choose, work. Written by wip/whole/gen/p35.py -/
section
variable {Γ : jm_G} {d m : Nat} {ar : Nat → Nat} {S : mS} {h : jm_H}
/-- a is through, and the first k of its children have sent tables -/
def haR (t : Int32) (ch tr : Nat → Int32) (a : Nat) : Nat → Bool
  | 0 => decide (t ≠ 0)
  | k + 1 => haR t ch tr a k && decide (¬ tr (8 + (ch (8 * a + k)).toNatClampNeg) ≤ 0)
abbrev haN (S : mS) (a : Nat) : Nat → Bool := haR (S 14 a) (S 20) (S 23) a
theorem bzA1 {x : Bool} {p : Prop} [Decidable p] (h1 : x = true) (h2 : p) : bz (x && decide p) = 1 := by rw [h1, decide_eq_true h2]; rfl
theorem bzA2 {x : Bool} {p : Prop} [Decidable p] (h2 : ¬ p) : bz (x && decide p) = 0 := by rw [decide_eq_false h2, Bool.and_false]; rfl
theorem bzA3 {x : Bool} {p : Prop} [Decidable p] (h1 : ¬ x = true) : bz (x && decide p) = 0 := by rw [Bool.eq_false_iff.mpr h1, Bool.false_and]; rfl
theorem lp_M_hasAll {rc rs a cc : Nat} (ha : a < 8) (h21 : S 21 a = nI cc) (hc8 : cc ≤ 8) (h20 : ∀ k, k < cc → nn S 20 (8 * a + k) 7) (hm : mo h m ar S) : ∀ j k, k + j = cc → jm_W Γ m_M_hasAll d rc rs (fun oc h' => h' = h ∧ oc = .inl (some (.int (bz (haN S a cc))))) 9 [some (.ref m), some (.int (nI a)), some (.int (bz (haN S a k))), some (.int (nI k))] [] h := by
  intro j
  induction j with
  | zero =>
    intro k hk
    have hk' : k = cc := by omega
    subst hk'
    refine jm_iload_n d_M_hasAll_9 rfl ?_
    first | refine jm_aload_n d_M_hasAll_10 rfl ?_ | refine jm_aload_nN d_M_hasAll_10 rfl ?_
    refine mr_geta d_M_hasAll_11 f_M_62 hm (by decide) (by decide) ?_
    refine jm_iload_n d_M_hasAll_14 rfl ?_
    refine mr_ldN _ d_M_hasAll_15 hm (by decide) (by decide) rfl rfl (by simp only [mo_len]; omega) ?_
    rw [h21]
    refine jm_icmp_ge 57 d_M_hasAll_16 (by decide) (fun hb16 => ?_) (fun hb16 => ?_)
    · refine jm_iload_n d_M_hasAll_57 rfl ?_
      exact jm_zret d_M_hasAll_58 rfl (by cases haN S a k <;> rfl) ⟨rfl, rfl⟩
    · exact absurd (nI_le (by omega) (by omega)) hb16
  | succ j ih =>
    intro k hk
    obtain ⟨q1, q2⟩ := h20 k (by omega)
    have et : (8 : Int32) + nI (N S 20 (8 * a + k)) = nI (8 + N S 20 (8 * a + k)) := by rw [show (8 : Int32) = nI 8 from rfl, nI_add]
    have e9 := ih (k + 1) (by omega)
    have ea : haN S a (k + 1) = (haN S a k && decide (¬ S 23 (8 + N S 20 (8 * a + k)) ≤ 0)) := rfl
    rw [ea] at e9
    refine jm_iload_n d_M_hasAll_9 rfl ?_
    first | refine jm_aload_n d_M_hasAll_10 rfl ?_ | refine jm_aload_nN d_M_hasAll_10 rfl ?_
    refine mr_geta d_M_hasAll_11 f_M_62 hm (by decide) (by decide) ?_
    refine jm_iload_n d_M_hasAll_14 rfl ?_
    refine mr_ldN _ d_M_hasAll_15 hm (by decide) (by decide) rfl rfl (by simp only [mo_len]; omega) ?_
    rw [h21]
    refine jm_icmp_ge 57 d_M_hasAll_16 (by decide) (fun hb16 => ?_) (fun hb16 => ?_)
    · exact absurd hb16 (nI_ge (by omega) (by omega))
    · refine jm_iload_n d_M_hasAll_19 rfl ?_
      first | refine jm_bz_eq 49 d_M_hasAll_20 (by decide) (fun hb20 => ?_) (fun hb20 => ?_) | refine jm_if_eq 49 d_M_hasAll_20 (by decide) (fun hb20 => ?_) (fun hb20 => ?_)
      · refine jm_iconstL (v := 0) d_M_hasAll_49 (by decide) ?_
        refine jm_istore_n d_M_hasAll_50 (Nat.le_of_ble_eq_true rfl) ?_
        refine jm_iincL (v := nI (k + 1)) d_M_hasAll_51 rfl (by rw [nI_succ]; rfl) ?_
        refine jm_goto 9 d_M_hasAll_54 (by decide) ?_
        first | rw [bzA3 hb20] at e9 | rw [bzA1 hb20 hb42] at e9 | rw [bzA2 (fun q => q hb42)] at e9
        exact e9
      · first | refine jm_aload_n d_M_hasAll_23 rfl ?_ | refine jm_aload_nN d_M_hasAll_23 rfl ?_
        refine mr_geta d_M_hasAll_24 f_M_68 hm (by decide) (by decide) ?_
        refine jm_bipushL (v := 8) d_M_hasAll_27 (by decide) ?_
        first | refine jm_aload_n d_M_hasAll_29 rfl ?_ | refine jm_aload_nN d_M_hasAll_29 rfl ?_
        refine mr_geta d_M_hasAll_30 f_M_59 hm (by decide) (by decide) ?_
        refine jm_bipushL (v := 8) d_M_hasAll_33 (by decide) ?_
        refine jm_iload_n d_M_hasAll_35 rfl ?_
        refine jm_imul d_M_hasAll_36 ?_
        refine jm_iload_n d_M_hasAll_37 rfl ?_
        refine jm_iadd d_M_hasAll_38 ?_
        rw [e8]
        refine mr_ldN _ d_M_hasAll_39 hm (by decide) (by decide) rfl rfl (by simp only [mo_len]; omega) ?_
        rw [q1]
        refine jm_iadd d_M_hasAll_40 ?_
        rw [et]
        refine mr_ldN _ d_M_hasAll_41 hm (by decide) (by decide) rfl rfl (by simp only [mo_len]; omega) ?_
        refine jm_if_le 49 d_M_hasAll_42 (by decide) (fun hb42 => ?_) (fun hb42 => ?_)
        · refine jm_iconstL (v := 0) d_M_hasAll_49 (by decide) ?_
          refine jm_istore_n d_M_hasAll_50 (Nat.le_of_ble_eq_true rfl) ?_
          refine jm_iincL (v := nI (k + 1)) d_M_hasAll_51 rfl (by rw [nI_succ]; rfl) ?_
          refine jm_goto 9 d_M_hasAll_54 (by decide) ?_
          first | rw [bzA3 hb20] at e9 | rw [bzA1 hb20 hb42] at e9 | rw [bzA2 (fun q => q hb42)] at e9
          exact e9
        · refine jm_iconstL (v := 1) d_M_hasAll_45 (by decide) ?_
          refine jm_goto 50 d_M_hasAll_46 (by decide) ?_
          refine jm_istore_n d_M_hasAll_50 (Nat.le_of_ble_eq_true rfl) ?_
          refine jm_iincL (v := nI (k + 1)) d_M_hasAll_51 rfl (by rw [nI_succ]; rfl) ?_
          refine jm_goto 9 d_M_hasAll_54 (by decide) ?_
          first | rw [bzA3 hb20] at e9 | rw [bzA1 hb20 hb42] at e9 | rw [bzA2 (fun q => q hb42)] at e9
          exact e9
theorem k_M_hasAll {a cc : Nat} (ha : a < 8) (h14 : S 14 a = 0 ∨ S 14 a = 1) (h21 : S 21 a = nI cc) (hc8 : cc ≤ 8) (h20 : ∀ k, k < cc → nn S 20 (8 * a + k) 7) : mA Γ m_M_hasAll d m ar [.int (nI a)] S (some (.int (bz (haN S a cc)))) := by
  intro h hm
  have e14 : S 14 a = bz (haN S a 0) := by
    rcases h14 with q | q <;> simp [haR, bz, q]
  refine jm_entry (by decide +kernel) (List.forall_mem_cons.mpr ⟨rfl, List.forall_mem_cons.mpr ⟨rfl, fun _ h => nomatch h⟩⟩) (Nat.le_of_ble_eq_true rfl) ?_
  show jm_W _ _ _ _ _ _ 0 [some (.ref m), some (.int (nI a)), none, none] [] _
  first | refine jm_aload_n d_M_hasAll_0 rfl ?_ | refine jm_aload_nN d_M_hasAll_0 rfl ?_
  refine mr_geta d_M_hasAll_1 f_M_41 hm (by decide) (by decide) ?_
  refine jm_iload_n d_M_hasAll_4 rfl ?_
  refine mr_ldzN _ d_M_hasAll_5 hm (by decide) (by decide) rfl rfl (by simp only [mo_len]; omega) ?_
  rw [e14]
  refine jm_istore_n d_M_hasAll_6 (Nat.le_of_ble_eq_true rfl) ?_
  refine jm_iconstL (v := nI 0) d_M_hasAll_7 (by decide) ?_
  refine jm_istore_n d_M_hasAll_8 (Nat.le_of_ble_eq_true rfl) ?_
  exact lp_M_hasAll ha h21 hc8 h20 hm cc 0 (by omega)
/-- what a knows lies in its bounds -/
abbrev knw (S : mS) (n a : Nat) : Prop := (∀ b, b < 8 → S 31 (8 * a + b) = -1 ∨ S 31 (8 * a + b) = nI (N S 31 (8 * a + b))) ∧ nvok S n (fun b => N S 31 (8 * a + b))
/-- a chooses in run r -/
def chS (S : mS) (a : Nat) (r : Int32) (np cc z : Nat) : mS :=
  pcF (mu (mu (mu (mu (mu (rsR S 32 8 (fun b => nI (N S 31 (8 * a + b)))) 33 0 (nI (blR (fun k => costN S (upn (fun b => N S 31 (8 * a + b)) a k) a np cc) z))) 32 a (nI (z - 1))) 30 a (bvR (fun k => costN S (upn (fun b => N S 31 (8 * a + b)) a k) a np cc) z)) 31 (8 * a + a) (bvR (fun k => costN S (upn (fun b => N S 31 (8 * a + b)) a k) a np cc) z)) 28 a r) a cc
theorem lp_M_ch0 {rc rs n a : Nat} {h0 : jm_H} {Q : jm_O → jm_H → Prop} {w2 : Option Value} (ha : a < 8) (hk : knw S n a)
    (hQ : ∀ h, mo h m ar (rsR S 32 8 (fun b => nI (N S 31 (8 * a + b)))) → mo_fr m ar h0 h → ∀ x3, jm_W Γ m_M_choose d rc rs Q 49 [some (.ref m), some (.int (nI a)), w2, x3] [] h) :
    ∀ j b, b + j = 8 → ∀ h, mo h m ar (rsR S 32 b (fun b => nI (N S 31 (8 * a + b)))) → mo_fr m ar h0 h → jm_W Γ m_M_choose d rc rs Q 2 [some (.ref m), some (.int (nI a)), w2, some (.int (nI b))] [] h := by
  intro j
  induction j with
  | zero =>
    intro b hb h hm hf
    have hb' : b = 8 := by omega
    subst hb'
    refine jm_iload_n d_M_choose_2 rfl ?_
    refine jm_bipushL (v := 8) d_M_choose_3 (by decide) ?_
    refine jm_icmp_ge 49 d_M_choose_5 (by decide) (fun hb5 => ?_) (fun hb5 => ?_)
    · exact hQ h hm hf _
    · exact absurd (by decide) hb5
  | succ j ih =>
    intro b hb h hm hf
    have e31 : rsR S 32 b (fun b => nI (N S 31 (8 * a + b))) 31 (8 * a + b) = S 31 (8 * a + b) := rfl
    have hk1 := hk.1 b (by omega)
    have hk2 : N S 31 (8 * a + b) < 4 := (hk.2 b (by omega)).1
    refine jm_iload_n d_M_choose_2 rfl ?_
    refine jm_bipushL (v := nI 8) d_M_choose_3 (by decide) ?_
    refine jm_icmp_ge 49 d_M_choose_5 (by decide) (fun hb5 => ?_) (fun hb5 => ?_)
    · exact absurd hb5 (nI_ge (b := 8) (by omega) (by decide))
    · first | refine jm_aload_n d_M_choose_8 rfl ?_ | refine jm_aload_nN d_M_choose_8 rfl ?_
      refine mr_geta d_M_choose_9 f_M_92 hm (by decide) (by decide) ?_
      refine jm_iload_n d_M_choose_12 rfl ?_
      first | refine jm_aload_n d_M_choose_13 rfl ?_ | refine jm_aload_nN d_M_choose_13 rfl ?_
      refine mr_geta d_M_choose_14 f_M_89 hm (by decide) (by decide) ?_
      refine jm_bipushL (v := nI 8) d_M_choose_17 (by decide) ?_
      refine jm_iload_n d_M_choose_19 rfl ?_
      refine jm_imul d_M_choose_20 ?_
      refine jm_iload_n d_M_choose_21 rfl ?_
      refine jm_iadd d_M_choose_22 ?_
      rw [show nI 8 = (8 : Int32) from rfl, e8]
      refine mr_ldN _ d_M_choose_23 hm (by decide) (by decide) rfl rfl (by simp only [mo_len]; omega) ?_
      rw [e31]
      refine jm_if_ge 31 d_M_choose_24 (by decide) (fun hb24 => ?_) (fun hb24 => ?_)
      · first | refine jm_aload_n d_M_choose_31 rfl ?_ | refine jm_aload_nN d_M_choose_31 rfl ?_
        refine mr_geta d_M_choose_32 f_M_89 hm (by decide) (by decide) ?_
        refine jm_bipushL (v := nI 8) d_M_choose_35 (by decide) ?_
        refine jm_iload_n d_M_choose_37 rfl ?_
        refine jm_imul d_M_choose_38 ?_
        refine jm_iload_n d_M_choose_39 rfl ?_
        refine jm_iadd d_M_choose_40 ?_
        rw [show nI 8 = (8 : Int32) from rfl, e8]
        refine mr_ldN _ d_M_choose_41 hm (by decide) (by decide) rfl rfl (by simp only [mo_len]; omega) ?_
        first | rw [e31] | skip
        refine mr_stN _ d_M_choose_42 hm hf (by decide) (by decide) rfl rfl (by simp only [mo_len]; omega) (fun h hm hf => ?_)
        refine jm_iincL (v := nI (b + 1)) d_M_choose_43 rfl (by rw [nI_succ]; rfl) ?_
        refine jm_goto 2 d_M_choose_46 (by decide) ?_
        refine ih (b + 1) (by omega) h ?_ hf
        rw [← rs_s]
        first
          | (have e : S 31 (8 * a + b) = nI (N S 31 (8 * a + b)) := hk1.resolve_left (fun q => by rw [q] at hb24; exact absurd hb24 (by decide))
             rw [← e]
             exact hm)
          | (have e : S 31 (8 * a + b) = -1 := hk1.resolve_right (fun q => hb24 (by rw [q]; exact nI_pos' (by omega)))
             rw [show nI (N S 31 (8 * a + b)) = nI 0 by unfold N; rw [e]; rfl]
             exact hm)
      · refine jm_iconstL (v := nI 0) d_M_choose_27 (by decide) ?_
        refine jm_goto 42 d_M_choose_28 (by decide) ?_
        first | rw [e31] | skip
        refine mr_stN _ d_M_choose_42 hm hf (by decide) (by decide) rfl rfl (by simp only [mo_len]; omega) (fun h hm hf => ?_)
        refine jm_iincL (v := nI (b + 1)) d_M_choose_43 rfl (by rw [nI_succ]; rfl) ?_
        refine jm_goto 2 d_M_choose_46 (by decide) ?_
        refine ih (b + 1) (by omega) h ?_ hf
        rw [← rs_s]
        first
          | (have e : S 31 (8 * a + b) = nI (N S 31 (8 * a + b)) := hk1.resolve_left (fun q => by rw [q] at hb24; exact absurd hb24 (by decide))
             rw [← e]
             exact hm)
          | (have e : S 31 (8 * a + b) = -1 := hk1.resolve_right (fun q => hb24 (by rw [q]; exact nI_pos' (by omega)))
             rw [show nI (N S 31 (8 * a + b)) = nI 0 by unfold N; rw [e]; rfl]
             exact hm)
theorem mu_same {j i : Nat} {x : Int32} : mu S j i x j i = x := by simp [mu]
theorem k_M_choose {n a np cc z nl : Nat} (r : Int32) (hd : 4 ≤ d) (ha : a < 8) (hw : cwf S n a np cc) (hz : N S 3 a = z) (hz1 : 1 ≤ z) (hk : knw S n a) (hn20 : S 34 0 = nI nl) (hnl : nl ≤ 20) : mM Γ m_M_choose d m ar [.int (nI a), .int r] S (fun v9 S' => v9 = none ∧ S' = chS S a r np cc z) := by
  intro h hm
  have hf : mo_fr m ar h h := mo_fr.rf
  refine jm_entry (by decide +kernel) (List.forall_mem_cons.mpr ⟨rfl, List.forall_mem_cons.mpr ⟨rfl, List.forall_mem_cons.mpr ⟨rfl, fun _ h => nomatch h⟩⟩⟩) (Nat.le_of_ble_eq_true rfl) ?_
  show jm_W _ _ _ _ _ _ 0 [some (.ref m), some (.int (nI a)), some (.int r), none] [] _
  refine jm_iconstL (v := nI 0) d_M_choose_0 (by decide) ?_
  refine jm_istore_n d_M_choose_1 (Nat.le_of_ble_eq_true rfl) ?_
  refine lp_M_ch0 ha hk (fun h hm hf x3 => ?_) 8 0 (by omega) h (by rw [rs_0]; exact hm) hf
  first | refine jm_aload_n d_M_choose_49 rfl ?_ | refine jm_aload_nN d_M_choose_49 rfl ?_
  refine mr_geta d_M_choose_50 f_M_86 hm (by decide) (by decide) ?_
  refine jm_iload_n d_M_choose_53 rfl ?_
  first | refine jm_aload_n d_M_choose_54 rfl ?_ | refine jm_aload_nN d_M_choose_54 rfl ?_
  refine jm_iload_n d_M_choose_55 rfl ?_
  refine mr_call (As := [_]) d_M_choose_56 l_M_202 iw_M_best ew_M_best nv_M_best rfl (Nat.le_of_ble_eq_true rfl) (by omega : 3 + 1 ≤ _) (k_M_best (S := rsR S 32 8 (fun b => nI (N S 31 (8 * a + b)))) (n := n) (nv := fun b => N S 31 (8 * a + b)) (np := np) (cc := cc) (z := z) (by omega) ha hw hk.2 (fun b hb => by simp [rsR, hb]) hz hz1) hm hf (fun v9 S9 h hq hm hf => ?_)
  obtain ⟨rfl, rfl⟩ := hq
  refine mr_stN _ d_M_choose_59 hm hf (by decide) (by decide) rfl rfl (by simp only [mo_len]; omega) (fun h hm hf => ?_)
  first | refine jm_aload_n d_M_choose_60 rfl ?_ | refine jm_aload_nN d_M_choose_60 rfl ?_
  refine mr_geta d_M_choose_61 f_M_89 hm (by decide) (by decide) ?_
  refine jm_bipushL (v := 8) d_M_choose_64 (by decide) ?_
  refine jm_iload_n d_M_choose_66 rfl ?_
  refine jm_imul d_M_choose_67 ?_
  refine jm_iload_n d_M_choose_68 rfl ?_
  refine jm_iadd d_M_choose_69 ?_
  rw [e8]
  first | refine jm_aload_n d_M_choose_70 rfl ?_ | refine jm_aload_nN d_M_choose_70 rfl ?_
  refine mr_geta d_M_choose_71 f_M_86 hm (by decide) (by decide) ?_
  refine jm_iload_n d_M_choose_74 rfl ?_
  refine mr_ldN _ d_M_choose_75 hm (by decide) (by decide) rfl rfl (by simp only [mo_len]; omega) ?_
  rw [mu_same]
  refine mr_stN _ d_M_choose_76 hm hf (by decide) (by decide) rfl rfl (by simp only [mo_len]; omega) (fun h hm hf => ?_)
  first | refine jm_aload_n d_M_choose_77 rfl ?_ | refine jm_aload_nN d_M_choose_77 rfl ?_
  refine mr_geta d_M_choose_78 f_M_80 hm (by decide) (by decide) ?_
  refine jm_iload_n d_M_choose_81 rfl ?_
  refine jm_iload_n d_M_choose_82 rfl ?_
  refine mr_stN _ d_M_choose_83 hm hf (by decide) (by decide) rfl rfl (by simp only [mo_len]; omega) (fun h hm hf => ?_)
  first | refine jm_aload_n d_M_choose_84 rfl ?_ | refine jm_aload_nN d_M_choose_84 rfl ?_
  refine jm_iload_n d_M_choose_85 rfl ?_
  refine mr_call (As := [_]) d_M_choose_86 l_M_220 iw_M_postChoices ew_M_postChoices nv_M_postChoices rfl (Nat.le_of_ble_eq_true rfl) (by omega : 1 + 1 ≤ _) (k_M_postChoices (nl := nl) (cc := cc) (by omega) ha (by exact hn20) hnl (by exact hw.2.2.2.2.1) hw.2.2.2.2.2.1) hm hf (fun v9 S9 h hq hm hf => ?_)
  obtain ⟨rfl, rfl⟩ := hq
  exact jm_vret d_M_choose_89 rfl ⟨_, _, rfl, ⟨rfl, rfl⟩, hm, hf⟩
/-- a does its work in run r -/
def wkS (S : mS) (a : Nat) (r : Int32) (np cc z w : Nat) : mS :=
  if haN S a cc = true then (if 256 < w then mu S 15 a 1 else if ¬ S 16 a < 0 then ptS (mkS S a r np cc z w) a else if tabN S a np cc z 0 = 1048576 then mu (mkS S a r np cc z w) 29 a r else chS (mkS S a r np cc z w) a r np cc z) else S
/-- the bounds that a's work needs -/
abbrev wkH (S : mS) (n a np cc z w nl : Nat) : Prop := a < n ∧ n ≤ 8 ∧ S 21 a = nI cc ∧ cc ≤ 8 ∧ (∀ k, k < cc → nn S 20 (8 * a + k) 7) ∧ (S 14 a = 0 ∨ S 14 a = 1) ∧ (∀ b, b < 8 → nn S 3 b 4) ∧ w = unN S (S 22 a) 8 ∧ w < 2 ^ 31 ∧ S 34 0 = nI nl ∧ nl ≤ 20 ∧ (haN S a cc = true → cwf S n a np cc ∧ N S 3 a = z ∧ (∀ b, b < n → 1 ≤ N S 3 b) ∧ ¬ cI (S 22 a) (nI a) ∧ (∀ b, b < 8 → cI (S 22 a) (nI b) → b < n)) ∧ (S 16 a < 0 → knw S n a)
theorem mu_row {j i j' : Nat} {x : Int32} (h : j' ≠ j) : mu S j i x j' = S j' := by
  funext b
  simp [mu, h]
theorem cwf_rows {T : mS} {n a np cc : Nat} (h3 : T 3 = S 3) (h4 : T 4 = S 4) (h5 : T 5 = S 5) (h6 : T 6 = S 6) (h7 : T 7 = S 7) (h8 : T 8 = S 8) (h20 : T 20 = S 20) (h21 : T 21 = S 21) (h24 : T 24 = S 24) (h26 : T 26 = S 26) (hw : cwf S n a np cc) : cwf T n a np cc := by
  unfold cwf nn N unN at *
  rw [h3, h4, h5, h6, h7, h8, h20, h21, h24, h26]
  exact hw
theorem mkS_wf {n a np cc z w : Nat} {r : Int32} (ha : a < 8) (hw256 : w ≤ 256) (hw : cwf S n a np cc) : cwf (mkS S a r np cc z w) n a np cc := cwf_rows (mu_row (by decide)) (mu_row (by decide)) (mu_row (by decide)) (mu_row (by decide)) (mu_row (by decide)) (mu_row (by decide)) (mu_row (by decide)) (mu_row (by decide)) (mu_row (by decide)) (mu_row (by decide)) <| mk_wf (S := S) (r := r) (w := w) (i := w) (t := tabN S a np cc z) (nw := upn (dgR (S 3) (S 22 a) w) a (z - 1)) (l := nI (tabN S a np cc z (w - 1))) ha hw256 (fun i => blR_le _ _) hw
theorem mkS_lo {a np cc z w j x : Nat} {r : Int32} (h23 : j ≠ 23) (h24 : j ≠ 24) (h25 : j ≠ 25) (h26 : j ≠ 26) (h27 : j ≠ 27) (h32 : j ≠ 32) (h33 : j ≠ 33) : mkS S a r np cc z w j x = S j x := by
  simp only [mkS]
  rw [show ∀ T : mS, ∀ y, mu T 27 0 y j x = T j x from fun T y => by simp [mu, h27], mkT_ot h26 h32 h33]
  simp [mk1, mu, h23, h24, h25]
theorem mkS_26 {a np cc z w x : Nat} {r : Int32} : mkS S a r np cc z w 26 x = if 256 * a ≤ x ∧ x < 256 * a + w then nI (tabN S a np cc z (x - 256 * a)) else S 26 x := by
  simp only [mkS]
  rw [show ∀ T : mS, ∀ y, mu T 27 0 y 26 x = T 26 x from fun T y => by simp [mu], mkT_26]
  simp [mk1, mu]
theorem k_M_work {n a np cc z w nl : Nat} (r : Int32) (hd : 5 ≤ d) (hH : wkH S n a np cc z w nl) : mM Γ m_M_work d m ar [.int (nI a), .int r] S (fun v9 S' => v9 = none ∧ S' = wkS S a r np cc z w) := by
  intro h hm
  have hf : mo_fr m ar h h := mo_fr.rf
  obtain ⟨han, hn8, h21, hc8, h20, h14, h3, hwe, hwb, hn20, hnl, hall, hkn⟩ := hH
  have ha : a < 8 := by omega
  refine jm_entry (by decide +kernel) (List.forall_mem_cons.mpr ⟨rfl, List.forall_mem_cons.mpr ⟨rfl, List.forall_mem_cons.mpr ⟨rfl, fun _ h => nomatch h⟩⟩⟩) (Nat.le_of_ble_eq_true rfl) ?_
  show jm_W _ _ _ _ _ _ 0 [some (.ref m), some (.int (nI a)), some (.int r)] [] _
  first | refine jm_aload_n d_M_work_0 rfl ?_ | refine jm_aload_nN d_M_work_0 rfl ?_
  refine jm_iload_n d_M_work_1 rfl ?_
  refine mr_callp (As := [_]) d_M_work_2 l_M_208 iw_M_hasAll ew_M_hasAll nv_M_hasAll rfl (Nat.le_of_ble_eq_true rfl) (by omega : 0 + 1 ≤ _) (k_M_hasAll (cc := cc) ha h14 h21 hc8 h20) hm ?_
  first | refine jm_bz_ne 9 d_M_work_5 (by decide) (fun hb5 => ?_) (fun hb5 => ?_) | refine jm_if_ne 9 d_M_work_5 (by decide) (fun hb5 => ?_) (fun hb5 => ?_)
  · first | refine jm_aload_n d_M_work_9 rfl ?_ | refine jm_aload_nN d_M_work_9 rfl ?_
    refine jm_iload_n d_M_work_10 rfl ?_
    refine mr_callp (As := [_]) d_M_work_11 l_M_199 iw_M_width ew_M_width nv_M_width rfl (Nat.le_of_ble_eq_true rfl) (by omega : 1 + 1 ≤ _) (k_M_width ha (by omega) h3) hm ?_
    refine jm_sipushL (v := 256) d_M_work_14 (by decide) ?_
    rw [← hwe]
    refine jm_icmp_le 28 d_M_work_17 (by decide) (fun hb17 => ?_) (fun hb17 => ?_)
    · first | refine jm_aload_n d_M_work_28 rfl ?_ | refine jm_aload_nN d_M_work_28 rfl ?_
      refine jm_iload_n d_M_work_29 rfl ?_
      refine jm_iload_n d_M_work_30 rfl ?_
      have hw256 : w ≤ 256 := (nI_leI (b := 256) hwb (by decide)).mp hb17
      have hnw : ¬ 256 < w := by omega
      obtain ⟨hw, hz, hs, hxa, hsn⟩ := hall hb5
      have hz1 := hs a han
      have hupos : 0 < w := by rw [hwe]; exact unR_pos 8 (fun b hb hc => hs b (hsn b hb hc))
      refine mr_call (As := [_, _]) d_M_work_31 l_M_211 iw_M_make ew_M_make nv_M_make rfl (Nat.le_of_ble_eq_true rfl) (by omega : 4 + 1 ≤ _) (k_M_make (n := n) (np := np) (cc := cc) (z := z) (w := w) r (by omega) ⟨han, hn8, hw, hz, hs, hxa, hsn, hwe, hw256⟩) hm hf (fun v9 S9 h hq hm hf => ?_)
      obtain ⟨rfl, rfl⟩ := hq
      have e16 : mkS S a r np cc z w 16 a = S 16 a := mkS_lo (by decide) (by decide) (by decide) (by decide) (by decide) (by decide) (by decide)
      have e34 : mkS S a r np cc z w 34 0 = nI nl := (mkS_lo (by decide) (by decide) (by decide) (by decide) (by decide) (by decide) (by decide)).trans hn20
      have e25 : mkS S a r np cc z w 25 a = nI w := by simp [mkS, mkT, rsR, mu, mkC]
      have e26 : mkS S a r np cc z w 26 (256 * a) = nI (tabN S a np cc z 0) := by rw [mkS_26, if_pos (by omega), Nat.sub_self]
      have m256 : (256 : Int32) * nI a = nI (256 * a) := by rw [show (256 : Int32) = nI 256 from rfl, pk_mul]
      have htl : tabN S a np cc z 0 ≤ 1048576 := blR_le _ _
      first | refine jm_aload_n d_M_work_34 rfl ?_ | refine jm_aload_nN d_M_work_34 rfl ?_
      refine mr_geta d_M_work_35 f_M_47 hm (by decide) (by decide) ?_
      refine jm_iload_n d_M_work_38 rfl ?_
      refine mr_ldN _ d_M_work_39 hm (by decide) (by decide) rfl rfl (by simp only [mo_len]; omega) ?_
      rw [e16]
      refine jm_if_lt 51 d_M_work_40 (by decide) (fun hb40 => ?_) (fun hb40 => ?_)
      · first | refine jm_aload_n d_M_work_51 rfl ?_ | refine jm_aload_nN d_M_work_51 rfl ?_
        refine mr_geta d_M_work_52 f_M_77 hm (by decide) (by decide) ?_
        refine jm_sipushL (v := 256) d_M_work_55 (by decide) ?_
        refine jm_iload_n d_M_work_58 rfl ?_
        refine jm_imul d_M_work_59 ?_
        rw [m256]
        refine mr_ldN _ d_M_work_60 hm (by decide) (by decide) rfl rfl (by simp only [mo_len]; omega) ?_
        rw [e26]
        refine jm_ldc d_M_work_61 k_M_145 ?_
        refine jm_icmp_ne 76 d_M_work_63 (by decide) (fun hb63 => ?_) (fun hb63 => ?_)
        · first | refine jm_aload_n d_M_work_76 rfl ?_ | refine jm_aload_nN d_M_work_76 rfl ?_
          refine jm_iload_n d_M_work_77 rfl ?_
          refine jm_iload_n d_M_work_78 rfl ?_
          refine mr_call (As := [_, _]) d_M_work_79 l_M_217 iw_M_choose ew_M_choose nv_M_choose rfl (Nat.le_of_ble_eq_true rfl) (by omega : 4 + 1 ≤ _) (k_M_choose (S := mkS S a r np cc z w) (n := n) (np := np) (cc := cc) (z := z) (nl := nl) r (by omega) ha (mkS_wf ha hw256 hw) hz (hz ▸ hz1) (hkn hb40) e34 hnl) hm hf (fun v9 S9 h hq hm hf => ?_)
          obtain ⟨rfl, rfl⟩ := hq
          exact jm_vret d_M_work_82 rfl ⟨_, _, rfl, ⟨rfl, by rw [wkS, if_pos hb5, if_neg hnw, if_neg (fun q => q hb40), if_neg (fun q => hb63 (by rw [q]; rfl))]⟩, hm, hf⟩
        · first | refine jm_aload_n d_M_work_66 rfl ?_ | refine jm_aload_nN d_M_work_66 rfl ?_
          refine mr_geta d_M_work_67 f_M_83 hm (by decide) (by decide) ?_
          refine jm_iload_n d_M_work_70 rfl ?_
          refine jm_iload_n d_M_work_71 rfl ?_
          refine mr_stN _ d_M_work_72 hm hf (by decide) (by decide) rfl rfl (by simp only [mo_len]; omega) (fun h hm hf => ?_)
          refine jm_goto 82 d_M_work_73 (by decide) ?_
          exact jm_vret d_M_work_82 rfl ⟨_, _, rfl, ⟨rfl, by rw [wkS, if_pos hb5, if_neg hnw, if_neg (fun q => q hb40), if_pos ((nI_eq (b := 1048576) (by omega) (by decide)).mp (Decidable.not_not.mp hb63))]⟩, hm, hf⟩
      · first | refine jm_aload_n d_M_work_43 rfl ?_ | refine jm_aload_nN d_M_work_43 rfl ?_
        refine jm_iload_n d_M_work_44 rfl ?_
        refine mr_call (As := [_]) d_M_work_45 l_M_214 iw_M_postTable ew_M_postTable nv_M_postTable rfl (Nat.le_of_ble_eq_true rfl) (by omega : 1 + 1 ≤ _) (k_M_postTable (nl := nl) (w := w) (by omega) ha e34 hnl e25 hw256) hm hf (fun v9 S9 h hq hm hf => ?_)
        obtain ⟨rfl, rfl⟩ := hq
        refine jm_goto 82 d_M_work_48 (by decide) ?_
        exact jm_vret d_M_work_82 rfl ⟨_, _, rfl, ⟨rfl, by rw [wkS, if_pos hb5, if_neg hnw, if_pos hb40]⟩, hm, hf⟩
    · first | refine jm_aload_n d_M_work_20 rfl ?_ | refine jm_aload_nN d_M_work_20 rfl ?_
      refine mr_geta d_M_work_21 f_M_44 hm (by decide) (by decide) ?_
      refine jm_iload_n d_M_work_24 rfl ?_
      refine jm_iconstL (v := 1) d_M_work_25 (by decide) ?_
      refine mr_stzN _ d_M_work_26 hm hf (by decide) (by decide) rfl rfl (by simp only [mo_len]; omega) rfl (fun h hm hf => ?_)
      exact jm_vret d_M_work_27 rfl ⟨_, _, rfl, ⟨rfl, by rw [wkS, if_pos hb5, if_pos (Nat.not_le.mp (fun q => hb17 (nI_le (b := 256) q (by decide))))]⟩, hm, hf⟩
  · exact jm_vret d_M_work_8 rfl ⟨_, _, rfl, ⟨rfl, by rw [wkS, if_neg hb5]⟩, hm, hf⟩
end
