/-! THE CLASS: told, mostJoined, partOf. Written by wip/whole/gen/p58.py -/
section
variable {Γ : jm_G} {d x : Nat} {L sz : Nat → Nat → Nat} {C : mS} {h : jm_H} {ρ : Nat → Nat}
def toldC (C : mS) (k x : Int32) : Int32 :=
  if ¬ isLtC C k then -1 else if x = 0 then C 35 k.toNatClampNeg else if x = 1 then C 36 k.toNatClampNeg else if x = 2 then C 37 k.toNatClampNeg else if x = 3 then C 38 k.toNatClampNeg else if x = 4 then (if C 67 k.toNatClampNeg = -1 then 0 else nI (ccR (fun i => C 68 (256 * k.toNatClampNeg + i)) (C 67 k.toNatClampNeg).toNatClampNeg))
  else if x < 10 then -1 else if C 67 k.toNatClampNeg ≠ -1 ∧ x - 10 < C 67 k.toNatClampNeg then C 68 (256 * k.toNatClampNeg + (x - 10).toNatClampNeg) else -1
theorem k_B_told {nl : Nat} (hd : 1 ≤ d) (hn : C 34 0 = nI nl) (hs : sz 8 0 = nl) (h20 : nl ≤ 20) (k x9 : Int32) : cA0 Γ m_B_told d x [.ref x, .int k, .int x9] L sz C (some (.int (toldC C k x9))) := by
  intro h ρ hc
  refine jm_entry (by decide +kernel) (List.forall_mem_cons.mpr ⟨rfl, List.forall_mem_cons.mpr ⟨rfl, List.forall_mem_cons.mpr ⟨rfl, fun _ h => nomatch h⟩⟩⟩) (Nat.le_of_ble_eq_true rfl) ?_
  show jm_W _ _ _ _ _ _ 0 [some (.ref x), some (.int k), some (.int x9), none] [] _
  refine jm_aload_n d_B_told_0 rfl ?_
  refine jm_iload_n d_B_told_1 rfl ?_
  refine cr_callp (r := ("BargainTree", jm_F0, 9)) (As := [_]) d_B_told_2 l_B_131 iw_B_isLetter ew_B_isLetter rfl nv_B_isLetter rfl (hc.1 1 0 rfl).1 (Nat.le_of_ble_eq_true rfl) (by omega : 0 + 1 ≤ _) (k_B_isLetter _) hc ?_
  first | refine jm_bz_ne 10 d_B_told_5 (by decide) (fun hb5 => ?_) (fun hb5 => ?_) | refine jm_if_ne 10 d_B_told_5 (by decide) (fun hb5 => ?_) (fun hb5 => ?_)
  · obtain ⟨q, hq, rfl⟩ := ltC_ix hn h20 hb5
    have ec := nI_clamp (show q < 2 ^ 31 by omega)
    refine jm_aload_n d_B_told_10 rfl ?_
    refine cr_get 80 0 d_B_told_11 f_B_23 hc rfl rfl rfl rfl (v := .ref (L 0 2)) rfl ?_
    refine jm_iload_n d_B_told_14 rfl ?_
    refine cr_ald 5 77 q (e := q) d_B_told_15 (by decide) rfl hc (show q < sz 8 0 by omega) rfl rfl rfl rfl (by have := hc.B.2.2.1; omega) (by decide) (v := .ref (L 8 q)) rfl ?_
    refine jm_astore_n d_B_told_16 (Nat.le_of_ble_eq_true rfl) ?_
    refine jm_iload_n d_B_told_17 rfl ?_
    by_cases sw0 : x9 = 0
    · subst sw0
      refine jm_tableIn 52 d_B_told_18 (by decide) (by decide) rfl (by decide) ?_
      refine jm_aload_n d_B_told_52 rfl ?_
      refine cr_l0G (fin := false) d_B_told_53 f_B_152 (hc.2.2.2.2.1 q (by omega)) ?_
      exact jm_iret d_B_told_56 rfl ⟨rfl, by rw [toldC, if_neg (show ¬ ¬ isLtC C (nI q) from fun z => z hb5), ec]; simp⟩
    by_cases sw1 : x9 = 1
    · subst sw1
      refine jm_tableIn 57 d_B_told_18 (by decide) (by decide) rfl (by decide) ?_
      refine jm_aload_n d_B_told_57 rfl ?_
      refine cr_l1G (fin := false) d_B_told_58 f_B_155 (hc.2.2.2.2.1 q (by omega)) ?_
      exact jm_iret d_B_told_61 rfl ⟨rfl, by rw [toldC, if_neg (show ¬ ¬ isLtC C (nI q) from fun z => z hb5), ec]; simp⟩
    by_cases sw2 : x9 = 2
    · subst sw2
      refine jm_tableIn 62 d_B_told_18 (by decide) (by decide) rfl (by decide) ?_
      refine jm_aload_n d_B_told_62 rfl ?_
      refine cr_l2G (fin := false) d_B_told_63 f_B_158 (hc.2.2.2.2.1 q (by omega)) ?_
      exact jm_iret d_B_told_66 rfl ⟨rfl, by rw [toldC, if_neg (show ¬ ¬ isLtC C (nI q) from fun z => z hb5), ec]; simp⟩
    by_cases sw3 : x9 = 3
    · subst sw3
      refine jm_tableIn 67 d_B_told_18 (by decide) (by decide) rfl (by decide) ?_
      refine jm_aload_n d_B_told_67 rfl ?_
      refine cr_l3G (fin := false) d_B_told_68 f_B_161 (hc.2.2.2.2.1 q (by omega)) ?_
      exact jm_iret d_B_told_71 rfl ⟨rfl, by rw [toldC, if_neg (show ¬ ¬ isLtC C (nI q) from fun z => z hb5), ec]; simp⟩
    by_cases sw4 : x9 = 4
    · subst sw4
      refine jm_tableIn 72 d_B_told_18 (by decide) (by decide) rfl (by decide) ?_
      refine jm_aload_n d_B_told_72 rfl ?_
      refine jm_callVp (r := ("BargainTree$Letter", jm_F5, 5)) (As := []) d_B_told_73 l_B_164 iw_L_contentCount ew_L_contentCount rfl nv_L_contentCount rfl (hc.2.2.2.2.1 q (by omega)).1 (Nat.le_of_ble_eq_true rfl) (by omega : 0 + 1 ≤ _) (k_L_contentCount (hc.2.2.2.2.1 q (by omega))) ?_
      exact jm_iret d_B_told_76 rfl ⟨rfl, by rw [toldC, if_neg (show ¬ ¬ isLtC C (nI q) from fun z => z hb5), ec]; simp⟩
    refine jm_tableOut 77 d_B_told_18 (by simp only [← Int32.toInt_inj, Int32.reduceToInt] at sw0 sw1 sw2 sw3 sw4; omega) (by decide) ?_
    refine jm_iload_n d_B_told_77 rfl ?_
    refine jm_bipushL (v := 10) d_B_told_78 (by decide) ?_
    refine jm_icmp_ge 87 d_B_told_80 (by decide) (fun hb80 => ?_) (fun hb80 => ?_)
    · refine jm_aload_n d_B_told_87 rfl ?_
      refine jm_iload_n d_B_told_88 rfl ?_
      refine jm_bipushL (v := 10) d_B_told_89 (by decide) ?_
      refine jm_isub d_B_told_91 ?_
      have h10 : 0 ≤ x9 - 10 := by
        obtain ⟨z, hz, rfl⟩ := nI_of (x := x9) (fun q => by simp only [Int32.lt_iff_toInt_lt, Int32.le_iff_toInt_le, Int32.reduceToInt] at *; omega)
        have : 10 ≤ z := by
          have e := hb80
          rw [show (10 : Int32) = nI 10 from rfl] at e
          exact (nI_leI (by decide) hz).mp e
        rw [show (10 : Int32) = nI 10 from rfl, pk_sub this]
        exact nI_pos' (by omega)
      refine jm_callVp (r := ("BargainTree$Letter", jm_F5, 5)) (As := [_]) d_B_told_92 l_B_168 iw_L_contentAt ew_L_contentAt rfl nv_L_contentAt rfl (hc.2.2.2.2.1 q (by omega)).1 (Nat.le_of_ble_eq_true rfl) (by omega : 0 + 1 ≤ _) (k_L_contentAt (hc.2.2.2.2.1 q (by omega)) h10) ?_
      exact jm_iret d_B_told_95 rfl ⟨rfl, by rw [toldC, if_neg (show ¬ ¬ isLtC C (nI q) from fun z => z hb5), if_neg sw0, if_neg sw1, if_neg sw2, if_neg sw3, if_neg sw4, ec, if_neg (Int32.not_lt.mpr hb80)]⟩
    · refine jm_iconstL (v := -1) d_B_told_83 (by decide) ?_
      refine jm_goto 95 d_B_told_84 (by decide) ?_
      exact jm_iret d_B_told_95 rfl ⟨rfl, by rw [toldC, if_neg (show ¬ ¬ isLtC C (nI q) from fun z => z hb5), if_neg sw0, if_neg sw1, if_neg sw2, if_neg sw3, if_neg sw4, ec, if_pos (Int32.not_le.mp hb80)]⟩
  · refine jm_iconstL (v := -1) d_B_told_8 (by decide) ?_
    exact jm_iret d_B_told_9 rfl ⟨rfl, by rw [toldC, if_pos hb5]⟩
/-- the one of mask y below k that has most neighbours, and how many -/
def mjR (nb : Nat → Int32) (y : Int32) : Nat → Int32 × Int32
  | 0 => (-1, -1)
  | k + 1 => if cI y (nI k) ∧ (mjR nb y k).2 < bcI (nb k) then (nI k, bcI (nb k)) else mjR nb y k
theorem lp_B_mostJoined {rc rs n : Nat} {y : Int32} (hd : 1 ≤ d) (hc : co Γ h x L ρ sz C) (hn : C 1 0 = nI n) (hs : sz 1 0 = n) (h8 : n ≤ 8) : ∀ j k, k + j = n → ∀ x5, jm_W Γ m_B_mostJoined d rc rs (fun oc h' => h' = h ∧ oc = .inl (some (.int (mjR (C 9) y n).1))) 7 [some (.ref x), some (.int y), some (.int (mjR (C 9) y k).1), some (.int (mjR (C 9) y k).2), some (.int (nI k)), x5] [] h := by
  intro j
  induction j with
  | zero =>
    intro k hk x5
    have hk' : k = n := by omega
    subst hk'
    refine jm_iload d_B_mostJoined_7 rfl ?_
    refine jm_aload_n d_B_mostJoined_9 rfl ?_
    refine cr_get 1 0 d_B_mostJoined_10 f_B_42 hc rfl rfl rfl rfl (v := .int (C 1 0)) rfl ?_
    rw [hn]
    refine jm_icmp_ge 58 d_B_mostJoined_13 (by decide) (fun hb13 => ?_) (fun hb13 => ?_)
    · refine jm_iload_n d_B_mostJoined_58 rfl ?_
      exact jm_iret d_B_mostJoined_59 rfl ⟨rfl, rfl⟩
    · exact absurd (nI_le (by omega) (by omega)) hb13
  | succ j ih =>
    intro k hk x5
    have e9 := ih (k + 1) (by omega)
    have em : mjR (C 9) y (k + 1) = if cI y (nI k) ∧ (mjR (C 9) y k).2 < bcI (C 9 k) then (nI k, bcI (C 9 k)) else mjR (C 9) y k := rfl
    rw [em] at e9
    refine jm_iload d_B_mostJoined_7 rfl ?_
    refine jm_aload_n d_B_mostJoined_9 rfl ?_
    refine cr_get 1 0 d_B_mostJoined_10 f_B_42 hc rfl rfl rfl rfl (v := .int (C 1 0)) rfl ?_
    rw [hn]
    refine jm_icmp_ge 58 d_B_mostJoined_13 (by decide) (fun hb13 => ?_) (fun hb13 => ?_)
    · exact absurd hb13 (nI_ge (by omega) (by omega))
    · refine jm_aload_n d_B_mostJoined_16 rfl ?_
      refine cr_get 78 0 d_B_mostJoined_17 f_B_11 hc rfl rfl rfl rfl (v := .ref (L 0 0)) rfl ?_
      refine jm_iload d_B_mostJoined_20 rfl ?_
      refine cr_ald 3 70 k (e := k) d_B_mostJoined_22 (by decide) rfl hc (show k < sz 1 0 by omega) rfl rfl rfl rfl (by have := hc.B.1; omega) (by decide) (v := .ref (L 1 k)) rfl ?_
      refine cr_get 9 k d_B_mostJoined_23 f_B_93 hc (show k < sz 1 0 by omega) rfl rfl rfl (v := .int (C 9 k)) rfl ?_
      refine jm_callSp (As := [_]) d_B_mostJoined_26 l_B_266 sw_J_bitCount nv_J_bitCount rfl (Nat.le_of_ble_eq_true rfl) (by omega : 0 + 1 ≤ _) (k_J_bitCount _) ?_
      refine jm_istore d_B_mostJoined_29 (Nat.le_of_ble_eq_true rfl) ?_
      refine jm_iload_n d_B_mostJoined_31 rfl ?_
      refine jm_iload d_B_mostJoined_32 rfl ?_
      refine jm_callSp (As := [_, _]) d_B_mostJoined_34 l_B_227 sw_B_contains nv_B_contains rfl (Nat.le_of_ble_eq_true rfl) (by omega : 0 + 1 ≤ _) (k_B_contains _ _) ?_
      first | refine jm_bz_eq 52 d_B_mostJoined_37 (by decide) (fun hb37 => ?_) (fun hb37 => ?_) | refine jm_if_eq 52 d_B_mostJoined_37 (by decide) (fun hb37 => ?_) (fun hb37 => ?_)
      · refine jm_iincL (v := nI (k + 1)) d_B_mostJoined_52 rfl (by rw [nI_succ]; rfl) ?_
        refine jm_goto 7 d_B_mostJoined_55 (by decide) ?_
        first
          | rw [if_neg (fun q => hb37 (And.left q))] at e9
          | rw [if_pos (And.intro hb37 (Int32.not_le.mp hb43))] at e9
          | rw [if_neg (fun q => absurd (And.right q) (Int32.not_lt.mpr hb43))] at e9
        exact e9 _
      · refine jm_iload d_B_mostJoined_40 rfl ?_
        refine jm_iload_n d_B_mostJoined_42 rfl ?_
        refine jm_icmp_le 52 d_B_mostJoined_43 (by decide) (fun hb43 => ?_) (fun hb43 => ?_)
        · refine jm_iincL (v := nI (k + 1)) d_B_mostJoined_52 rfl (by rw [nI_succ]; rfl) ?_
          refine jm_goto 7 d_B_mostJoined_55 (by decide) ?_
          first
            | rw [if_neg (fun q => hb37 (And.left q))] at e9
            | rw [if_pos (And.intro hb37 (Int32.not_le.mp hb43))] at e9
            | rw [if_neg (fun q => absurd (And.right q) (Int32.not_lt.mpr hb43))] at e9
          exact e9 _
        · refine jm_iload d_B_mostJoined_46 rfl ?_
          refine jm_istore_n d_B_mostJoined_48 (Nat.le_of_ble_eq_true rfl) ?_
          refine jm_iload d_B_mostJoined_49 rfl ?_
          refine jm_istore_n d_B_mostJoined_51 (Nat.le_of_ble_eq_true rfl) ?_
          refine jm_iincL (v := nI (k + 1)) d_B_mostJoined_52 rfl (by rw [nI_succ]; rfl) ?_
          refine jm_goto 7 d_B_mostJoined_55 (by decide) ?_
          first
            | rw [if_neg (fun q => hb37 (And.left q))] at e9
            | rw [if_pos (And.intro hb37 (Int32.not_le.mp hb43))] at e9
            | rw [if_neg (fun q => absurd (And.right q) (Int32.not_lt.mpr hb43))] at e9
          exact e9 _
theorem k_B_mostJoined {n : Nat} (hn : C 1 0 = nI n) (hs : sz 1 0 = n) (h8 : n ≤ 8) (hd : 1 ≤ d) (y : Int32) : cA0 Γ m_B_mostJoined d x [.ref x, .int y] L sz C (some (.int (mjR (C 9) y n).1)) := by
  intro h ρ hc
  refine jm_entry (by decide +kernel) (List.forall_mem_cons.mpr ⟨rfl, List.forall_mem_cons.mpr ⟨rfl, fun _ h => nomatch h⟩⟩) (Nat.le_of_ble_eq_true rfl) ?_
  show jm_W _ _ _ _ _ _ 0 [some (.ref x), some (.int y), none, none, none, none] [] _
  refine jm_iconstL (v := (-1)) d_B_mostJoined_0 (by decide) ?_
  refine jm_istore_n d_B_mostJoined_1 (Nat.le_of_ble_eq_true rfl) ?_
  refine jm_iconstL (v := (-1)) d_B_mostJoined_2 (by decide) ?_
  refine jm_istore_n d_B_mostJoined_3 (Nat.le_of_ble_eq_true rfl) ?_
  refine jm_iconstL (v := nI 0) d_B_mostJoined_4 (by decide) ?_
  refine jm_istore d_B_mostJoined_5 (Nat.le_of_ble_eq_true rfl) ?_
  exact lp_B_mostJoined hd hc hn hs h8 n 0 (by omega) _
theorem lp_B_part1 {rc rs n : Nat} {y : Int32} {Q : jm_O → jm_H → Prop} {w1 w3 : Option Value} (hd : 1 ≤ d) (hc : co Γ h x L ρ sz C) (hn : C 1 0 = nI n) (hs : sz 1 0 = n) (h8 : n ≤ 8)
    (hQ : ∀ x4, jm_W Γ m_B_partOf d rc rs Q 54 [some (.ref x), w1, some (.int (swR (C 9) y n)), w3, x4] [] h) : ∀ j k, k + j = n → jm_W Γ m_B_partOf d rc rs Q 17 [some (.ref x), w1, some (.int (swR (C 9) y k)), w3, some (.int (nI k))] [] h := by
  intro j
  induction j with
  | zero =>
    intro k hk
    have hk' : k = n := by omega
    subst hk'
    refine jm_iload d_B_partOf_17 rfl ?_
    refine jm_aload_n d_B_partOf_19 rfl ?_
    refine cr_get 1 0 d_B_partOf_20 f_B_42 hc rfl rfl rfl rfl (v := .int (C 1 0)) rfl ?_
    rw [hn]
    refine jm_icmp_ge 54 d_B_partOf_23 (by decide) (fun hb23 => ?_) (fun hb23 => ?_)
    · exact hQ _
    · exact absurd (nI_le (by omega) (by omega)) hb23
  | succ j ih =>
    intro k hk
    have e9 := ih (k + 1) (by omega)
    refine jm_iload d_B_partOf_17 rfl ?_
    refine jm_aload_n d_B_partOf_19 rfl ?_
    refine cr_get 1 0 d_B_partOf_20 f_B_42 hc rfl rfl rfl rfl (v := .int (C 1 0)) rfl ?_
    rw [hn]
    refine jm_icmp_ge 54 d_B_partOf_23 (by decide) (fun hb23 => ?_) (fun hb23 => ?_)
    · exact absurd hb23 (nI_ge (by omega) (by omega))
    · refine jm_iload_n d_B_partOf_26 rfl ?_
      refine jm_iload d_B_partOf_27 rfl ?_
      refine jm_callSp (As := [_, _]) d_B_partOf_29 l_B_227 sw_B_contains nv_B_contains rfl (Nat.le_of_ble_eq_true rfl) (by omega : 0 + 1 ≤ _) (k_B_contains _ _) ?_
      first | refine jm_bz_eq 48 d_B_partOf_32 (by decide) (fun hb32 => ?_) (fun hb32 => ?_) | refine jm_if_eq 48 d_B_partOf_32 (by decide) (fun hb32 => ?_) (fun hb32 => ?_)
      · refine jm_iincL (v := nI (k + 1)) d_B_partOf_48 rfl (by rw [nI_succ]; rfl) ?_
        refine jm_goto 17 d_B_partOf_51 (by decide) ?_
        first | rw [show swR (C 9) y (k + 1) = swR (C 9) y k from if_neg hb32] at e9 | rw [show swR (C 9) y (k + 1) = swR (C 9) y k ||| C 9 k from if_pos hb32] at e9
        exact e9
      · refine jm_iload_n d_B_partOf_35 rfl ?_
        refine jm_aload_n d_B_partOf_36 rfl ?_
        refine cr_get 78 0 d_B_partOf_37 f_B_11 hc rfl rfl rfl rfl (v := .ref (L 0 0)) rfl ?_
        refine jm_iload d_B_partOf_40 rfl ?_
        refine cr_ald 3 70 k (e := k) d_B_partOf_42 (by decide) rfl hc (show k < sz 1 0 by omega) rfl rfl rfl rfl (by have := hc.B.1; omega) (by decide) (v := .ref (L 1 k)) rfl ?_
        refine cr_get 9 k d_B_partOf_43 f_B_93 hc (show k < sz 1 0 by omega) rfl rfl rfl (v := .int (C 9 k)) rfl ?_
        refine jm_ior d_B_partOf_46 ?_
        refine jm_istore_n d_B_partOf_47 (Nat.le_of_ble_eq_true rfl) ?_
        refine jm_iincL (v := nI (k + 1)) d_B_partOf_48 rfl (by rw [nI_succ]; rfl) ?_
        refine jm_goto 17 d_B_partOf_51 (by decide) ?_
        first | rw [show swR (C 9) y (k + 1) = swR (C 9) y k from if_neg hb32] at e9 | rw [show swR (C 9) y (k + 1) = swR (C 9) y k ||| C 9 k from if_pos hb32] at e9
        exact e9
theorem lp_B_part2 {rc rs n : Nat} {y : Int32} {w1 : Option Value} (hd : 1 ≤ d) (hc : co Γ h x L ρ sz C) (hn : C 1 0 = nI n) (hs : sz 1 0 = n) (h8 : n ≤ 8) : ∀ j i, i + j = n → ∀ x4, jm_W Γ m_B_partOf d rc rs (fun oc h' => h' = h ∧ oc = .inl (some (.int (itR (C 9) n y n)))) 6 [some (.ref x), w1, some (.int (itR (C 9) n y i)), some (.int (nI i)), x4] [] h := by
  intro j
  induction j with
  | zero =>
    intro i hi x4
    have hi' : i = n := by omega
    subst hi'
    refine jm_iload_n d_B_partOf_6 rfl ?_
    refine jm_aload_n d_B_partOf_7 rfl ?_
    refine cr_get 1 0 d_B_partOf_8 f_B_42 hc rfl rfl rfl rfl (v := .int (C 1 0)) rfl ?_
    rw [hn]
    refine jm_icmp_ge 60 d_B_partOf_11 (by decide) (fun hb11 => ?_) (fun hb11 => ?_)
    · refine jm_iload_n d_B_partOf_60 rfl ?_
      exact jm_iret d_B_partOf_61 rfl ⟨rfl, rfl⟩
    · exact absurd (nI_le (by omega) (by omega)) hb11
  | succ j ih =>
    intro i hi x4
    refine jm_iload_n d_B_partOf_6 rfl ?_
    refine jm_aload_n d_B_partOf_7 rfl ?_
    refine cr_get 1 0 d_B_partOf_8 f_B_42 hc rfl rfl rfl rfl (v := .int (C 1 0)) rfl ?_
    rw [hn]
    refine jm_icmp_ge 60 d_B_partOf_11 (by decide) (fun hb11 => ?_) (fun hb11 => ?_)
    · exact absurd hb11 (nI_ge (by omega) (by omega))
    · refine jm_iconstL (v := nI 0) d_B_partOf_14 (by decide) ?_
      refine jm_istore d_B_partOf_15 (Nat.le_of_ble_eq_true rfl) ?_
      refine lp_B_part1 (y := itR (C 9) n y i) hd hc hn hs h8 (fun x4 => ?_) n 0 (by omega)
      refine jm_iincL (v := nI (i + 1)) d_B_partOf_54 rfl (by rw [nI_succ]; rfl) ?_
      refine jm_goto 6 d_B_partOf_57 (by decide) ?_
      exact ih (i + 1) (by omega) _
theorem k_B_partOf {n : Nat} (hn : C 1 0 = nI n) (hs : sz 1 0 = n) (h8 : n ≤ 8) (hd : 1 ≤ d) (a : Int32) : cA0 Γ m_B_partOf d x [.ref x, .int a] L sz C (some (.int (itR (C 9) n (1 <<< (a &&& 31)) n))) := by
  intro h ρ hc
  refine jm_entry (by decide +kernel) (List.forall_mem_cons.mpr ⟨rfl, List.forall_mem_cons.mpr ⟨rfl, fun _ h => nomatch h⟩⟩) (Nat.le_of_ble_eq_true rfl) ?_
  show jm_W _ _ _ _ _ _ 0 [some (.ref x), some (.int a), none, none, none] [] _
  refine jm_iconstL (v := nI 1) d_B_partOf_0 (by decide) ?_
  refine jm_iload_n d_B_partOf_1 rfl ?_
  refine jm_ishl d_B_partOf_2 ?_
  refine jm_istore_n d_B_partOf_3 (Nat.le_of_ble_eq_true rfl) ?_
  refine jm_iconstL (v := nI 0) d_B_partOf_4 (by decide) ?_
  refine jm_istore_n d_B_partOf_5 (Nat.le_of_ble_eq_true rfl) ?_
  exact lp_B_part2 hd hc hn hs h8 n 0 (by omega) _
end
