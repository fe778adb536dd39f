/-! CLASS AND REFERENCE: change. Written by wip/whole/gen/p81.py -/
section
variable {Γ : jm_G} {d x : Nat} {L sz : Nat → Nat → Nat} {S C : mS} {h : jm_H} {ρ : Nat → Nat} {n np nl T : Nat}
theorem va_same (h : INV S C n np nl T sz) (a v : Int32) : isVaC C a v ↔ isValueS S a v := by
  have k := inv_sc h
  have s := ag_same k.2.2.2.2.2.2.2.1 k.1 k.2.1 a
  have B := h.1
  unfold isVaC isValueS
  constructor
  · intro q
    obtain ⟨j, hj, rfl⟩ := ag_k k.1 k.2.1 (s.mp q.1)
    refine ⟨s.mp q.1, q.2.1, ?_⟩
    have z := q.2.2
    rw [nI_clamp (by omega), (h.2.1.2.1 j hj).1, (B.2.1 j (by omega)).1] at z
    rw [nI_clamp (by omega), (B.2.1 j (by omega)).1]
    exact (le_pred (by have := (B.2.1 j (by omega)).2; omega) q.2.1).mpr z
  · intro q
    obtain ⟨j, hj, rfl⟩ := ag_k k.1 k.2.1 q.1
    refine ⟨s.mpr q.1, q.2.1, ?_⟩
    have z := q.2.2
    rw [nI_clamp (by omega), (B.2.1 j (by omega)).1] at z
    rw [nI_clamp (by omega), (h.2.1.2.1 j hj).1, (B.2.1 j (by omega)).1]
    exact (le_pred (by have := (B.2.1 j (by omega)).2; omega) q.2.1).mp z
theorem pc_same (h : INV S C n np nl T sz) (a b v w c : Int32) : isPC S np a b v w c ↔ (pwC C np a b v w ≠ -1 ∧ (c = -2 ∨ (0 ≤ c ∧ c ≤ 999))) := by
  have k := inv_sc h
  have e : pfC (C 62) (C 63) a b np 0 = pairF S a b np 0 := pf_eq h.2.1.2.2.2.2.2.2.2.1 (bi_fg h.1) a b np 0 (by omega)
  unfold isPC pwC
  rw [e]
  have n12 := k.2.2.2.1
  constructor
  · intro q
    rw [if_pos ⟨(va_same h a v).mpr q.2.1, (va_same h b w).mpr q.2.2.1⟩]
    exact ⟨fun z => q.1 ((pairF_neg n12).mpr z), q.2.2.2⟩
  · intro q
    by_cases z : isVaC C a v ∧ isVaC C b w
    · rw [if_pos z] at q
      exact ⟨fun y => q.1 ((pairF_neg n12).mp y), (va_same h a v).mp z.1, (va_same h b w).mp z.2, q.2⟩
    · rw [if_neg z] at q; exact absurd rfl q.1
theorem z4_of (h : INV S C n np nl T sz) : ∀ k, k < n → ∃ z, z ≤ 4 ∧ C 3 k = nI z := fun k hk => by
  have n8 := (inv_sc h).2.1
  exact ⟨N S 3 k, (h.1.2.1 k (by omega)).2, by rw [(h.2.1.2.1 k hk).1]; exact (h.1.2.1 k (by omega)).1⟩
theorem inv_WI (h : INV S C n np nl T sz) (hs : S 2 0 ≠ 0) : ∃ A dd, WI S C n np nl T sz A dd noH 8 8 := by
  obtain ⟨A, dd, hI, LVs, CDh, Z5h⟩ := inv_run h hs
  have s1 : S 2 0 = 1 := (inv_sc h).2.2.2.2.2.2.1.resolve_left hs
  exact ⟨A, dd, s1, h.1, h.2.1, (IX8 (inv_sc h).2.1).mpr hI, LVs, CDh, Z5h⟩
theorem WI_inv {A : Rl} {dd : Nat → Nat} (W : WI S C n np nl T sz A dd noH 8 8) : INV S C n np nl T sz := by
  obtain ⟨w1, B, M, IXh, LVs, CDh, Z5h⟩ := W
  exact ⟨B, M, Or.inr ⟨w1, A, dd, (IX8 B.1.2.1).mp IXh, LVs, CDh, Z5h⟩⟩
theorem k_B_change (hd : 8 ≤ d) (hI : INV S C n np nl T sz) (hT : T + 1 < 2 ^ 30) {a b v w c : Int32} : cM Γ m_B_change d x [.ref x, .int a, .int b, .int v, .int w, .int c] L sz C 10 307 (fun oc L' sz' C' => (thChange S n np a b v w c = 1 ∧ oc = .inr 0 ∧ L' = L ∧ sz' = sz ∧ C' = C) ∨ (thChange S n np a b v w c = 2 ∧ oc = .inr 1 ∧ L' = L ∧ sz' = sz ∧ C' = C) ∨ (thChange S n np a b v w c = 0 ∧ kL8 L L' ∧ ∃ k l p v' w' q nl' A dd, cgI S n np a b v w k l p v' w' q ∧ oc = .inl (some (.int (nI nl'))) ∧ WI (wkC (cg0 S p k v' w' c q) (if cI (S 17 k) b then k else l) (S 12 q + 1) np) C' n np nl' (T + 1) sz' A dd noH 8 8)) := by
  intro h ρ hc
  have hf : xt ρ h ρ h := xt.rf
  obtain ⟨hS1, h8, hS5, h12, hS34, h20, hS2, hn, hp, hn34, h60, hs8, hs, hs20⟩ := inv_sc hI
  have est := (inv_st hI).1
  have hdp : C 60 0 = 0 → ∀ k, k < n → ptC sz C k := fun z => (inv_pt hI).1 (fun y => by rw [h60, if_pos y] at z; exact absurd z (by decide))
  refine jm_entry (by decide +kernel) (List.forall_mem_cons.mpr ⟨rfl, List.forall_mem_cons.mpr ⟨rfl, List.forall_mem_cons.mpr ⟨rfl, List.forall_mem_cons.mpr ⟨rfl, List.forall_mem_cons.mpr ⟨rfl, List.forall_mem_cons.mpr ⟨rfl, fun _ h => nomatch h⟩⟩⟩⟩⟩⟩) (Nat.le_of_ble_eq_true rfl) ?_
  show jm_W _ _ _ _ _ _ 0 [some (.ref x), some (.int a), some (.int b), some (.int v), some (.int w), some (.int c), none, none, none] [] _
  refine jm_aload_n d_B_change_0 rfl ?_
  refine jm_iload_n d_B_change_1 rfl ?_
  refine jm_iload_n d_B_change_2 rfl ?_
  refine jm_iload_n d_B_change_3 rfl ?_
  refine jm_iload d_B_change_4 rfl ?_
  rcases Decidable.em (pwC C np a b v w = -1) with hq | hq
  · refine cr_callp (r := ("BargainTree", jm_F0, 9)) (As := [_, _, _, _]) d_B_change_6 l_B_96 iw_B_pairWith ew_B_pairWith rfl nv_B_pairWith rfl (hc.1 1 0 rfl).1 (Nat.le_of_ble_eq_true rfl) (by omega : 2 + 1 ≤ _) (k_B_pairWith (by omega) hn hs8 h8 hp hs h12 a b v w) hc ?_
    rw [show pvC L (pwC C np a b v w) = .null from if_pos hq]
    refine jm_astoreN d_B_change_9 (Nat.le_of_ble_eq_true rfl) ?_
    refine jm_aloadN d_B_change_11 rfl ?_
    refine jm_ifnullN 24 d_B_change_13 (by decide) ?_
    exact jm_throw (tx := "no such pair, value or cost") d_B_change_24 d_B_change_27 d_B_change_28 d_B_change_30 d_B_change_33 x_0 (by decide +kernel) rfl (by omega) (by omega) (by simp; omega) (by decide) (Nat.le_of_ble_eq_true rfl) ⟨L, ρ, sz, C, Or.inl ⟨by unfold thChange thF; rw [if_pos (fun z => ((pc_same hI a b v w c).mp z).1 hq)], rfl, rfl, rfl, rfl⟩, hc, hf⟩
  · obtain ⟨p, hpn, ep⟩ : ∃ p, p < np ∧ pwC C np a b v w = nI p := by
      unfold pwC at hq ⊢
      split at hq
      · rename_i q
        rw [if_pos q]
        rcases pfC_ix (lo := C 62) (hi := C 63) (a := a) (b := b) np 0 with z | ⟨p, z1, z2, z3, -⟩
        · exact absurd z hq
        · exact ⟨p, by omega, z3⟩
      · exact absurd rfl hq
    refine cr_callp (r := ("BargainTree", jm_F0, 9)) (As := [_, _, _, _]) d_B_change_6 l_B_96 iw_B_pairWith ew_B_pairWith rfl nv_B_pairWith rfl (hc.1 1 0 rfl).1 (Nat.le_of_ble_eq_true rfl) (by omega : 2 + 1 ≤ _) (k_B_pairWith (by omega) hn hs8 h8 hp hs h12 a b v w) hc ?_
    rw [show pvC L (pwC C np a b v w) = .ref (L 6 p) from by rw [pvC, if_neg hq, ep, nI_clamp (by omega)]]
    refine jm_astore d_B_change_9 (Nat.le_of_ble_eq_true rfl) ?_
    refine jm_aload d_B_change_11 rfl ?_
    refine jm_ifnull d_B_change_13 ?_
    refine jm_iload d_B_change_16 rfl ?_
    refine jm_callSp (As := [_]) d_B_change_18 l_B_58 sw_B_isCost nv_B_isCost rfl (Nat.le_of_ble_eq_true rfl) (by omega : 0 + 1 ≤ _) (k_B_isCost _) ?_
    first | refine jm_bz_ne 34 d_B_change_21 (by decide) (fun hb21 => ?_) (fun hb21 => ?_) | refine jm_if_ne 34 d_B_change_21 (by decide) (fun hb21 => ?_) (fun hb21 => ?_)
    · refine jm_aload_n d_B_change_34 rfl ?_
      refine cr_callp (r := ("BargainTree", jm_F0, 9)) (As := []) d_B_change_35 l_B_207 iw_B_done ew_B_done rfl nv_B_done rfl (hc.1 1 0 rfl).1 (Nat.le_of_ble_eq_true rfl) (by omega : 1 + 1 ≤ _) (k_B_done (by omega) hn hs8 h8 hdp) hc ?_
      rw [est]
      refine jm_istore d_B_change_38 (Nat.le_of_ble_eq_true rfl) ?_
      refine jm_iload d_B_change_40 rfl ?_
      refine jm_iconstL (v := 1) d_B_change_42 (by decide) ?_
      refine jm_icmp_eq 62 d_B_change_43 (by decide) (fun hb43 => ?_) (fun hb43 => ?_)
      · have hst : stF S n = 1 ∨ stF S n = 2 := by first | exact Or.inl hb43 | exact Or.inr hb49
        have hwv : isVaC C a v ∧ isVaC C b w := by
          rcases Decidable.em (isVaC C a v ∧ isVaC C b w) with q | q
          · exact q
          · unfold pwC at hq; rw [if_neg q] at hq; exact absurd rfl hq
        obtain ⟨k, v', hk, hv', rfl, rfl⟩ := vaC_ix hn h8 (z4_of hI) hwv.1
        obtain ⟨l, w', hl, hw', rfl, rfl⟩ := vaC_ix hn h8 (z4_of hI) hwv.2
        have epf : pairF S (nI k) (nI l) np 0 = nI p := by
          have e : pfC (C 62) (C 63) (nI k) (nI l) np 0 = pairF S (nI k) (nI l) np 0 := pf_eq hI.2.1.2.2.2.2.2.2.2.1 (bi_fg hI.1) _ _ np 0 (by omega)
          unfold pwC at ep; rw [if_pos hwv] at ep; rw [← e]; exact ep
        have th0 : thChange S n np (nI k) (nI l) (nI v') (nI w') c = 0 := by
          unfold thChange thF
          rw [if_neg (not_not_intro ((pc_same hI _ _ _ _ c).mpr ⟨hq, hb21⟩)), if_neg (fun z => hst.elim z.1 z.2)]
        have hcost : isCostS c := hb21
        have s2 : S 2 0 ≠ 0 := (st_12 hst).1
        obtain ⟨q, r9, c10, hq8, hq5, c11, -⟩ := (inv_pt hI).1 s2 k hk
        have eq10 : S 10 k = nI q := by rw [← (hI.2.1.2.1 k hk).2.2.1]; exact c10
        have e12 : C 12 q = S 12 q := (hI.2.1.2.2.2.2.2.2.2.2.1.2 q hq8 hq5).2.1
        have c17 : C 17 k = S 17 k := (hI.2.1.2.1 k hk).2.2.2.2.2.1
        have hks : k < sz 1 0 := by omega
        have hls : l < sz 1 0 := by omega
        refine jm_aload d_B_change_62 rfl ?_
        refine cr_getG 76 p d_B_change_64 f_B_102 hc (show p < sz 6 0 by omega) rfl rfl rfl (v := .ref (L 7 p)) rfl ?_
        refine jm_aload d_B_change_67 rfl ?_
        refine jm_iload_n d_B_change_69 rfl ?_
        refine jm_iload_n d_B_change_70 rfl ?_
        refine jm_iload d_B_change_71 rfl ?_
        refine cr_callp (r := ("BargainTree$Pair", jm_F4, 3)) (As := [_, _, _]) d_B_change_73 l_B_105 iw_Q_place ew_Q_place rfl nv_Q_place rfl (hc.1 62 p (show p < sz 6 0 by omega)).1 (Nat.le_of_ble_eq_true rfl) (by omega : 0 + 1 ≤ _) (k_Q_place (by omega) _ _ _) hc ?_
        have epl : (if nI k = C 62 p then nI v' * 4 + nI w' else nI w' * 4 + nI v') = nI (if C 62 p = nI k then 4 * v' + w' else 4 * w' + v') := by
          by_cases q : C 62 p = nI k
          · rw [if_pos q, if_pos q.symm, show (4 : Int32) = nI 4 from rfl, pk_mul, nI_add, Nat.mul_comm]
          · rw [if_neg q, if_neg (fun z => q z.symm), show (4 : Int32) = nI 4 from rfl, pk_mul, nI_add, Nat.mul_comm]
        rw [epl]
        have hpl : (if C 62 p = nI k then 4 * v' + w' else 4 * w' + v') < 16 := by split <;> omega
        refine jm_iload d_B_change_76 rfl ?_
        refine cr_istR p ((if C 62 p = nI k then 4 * v' + w' else 4 * w' + v')) d_B_change_78 hc hf (by omega) (by omega) rfl (fun h hc hf => ?_)
        refine jm_aload_n d_B_change_79 rfl ?_
        refine cr_get 78 0 d_B_change_80 f_B_11 hc rfl rfl rfl rfl (v := .ref (L 0 0)) rfl ?_
        refine jm_iload_n d_B_change_83 rfl ?_
        refine cr_ald 3 70 k (e := k) d_B_change_84 (by decide) rfl hc (show k < sz 1 0 by omega) rfl rfl rfl rfl (by have := hc.B.1; omega) (by decide) (v := .ref (L 1 k)) rfl ?_
        refine cr_get 10 k d_B_change_85 f_B_212 hc (show k < sz 1 0 by omega) rfl rfl rfl (v := .ref (L 5 q)) (by show cE Γ L 10 k (mu C 64 _ c 10 k) = _; rw [mu_row (by decide)]; exact cE_part c10 hq8) ?_
        refine jm_astore d_B_change_88 (Nat.le_of_ble_eq_true rfl) ?_
        refine jm_aload d_B_change_90 rfl ?_
        refine jm_dup d_B_change_92 rfl ?_
        refine cr_get 12 q d_B_change_93 f_B_216 hc (show q < 8 ∧ sz 5 q = 1 from ⟨by omega, hq5⟩) rfl rfl rfl (v := .int (C 12 q)) (by show Value.int (mu C 64 _ c 12 q) = _; rw [mu_row (by decide)]) ?_
        refine jm_iconstL (v := 1) d_B_change_96 (by decide) ?_
        refine jm_iadd d_B_change_97 ?_
        refine cr_put 12 q _ d_B_change_98 f_B_216 hc hf (show q < 8 ∧ sz 5 q = 1 from ⟨by omega, hq5⟩) rfl rfl rfl (by decide) (by decide) rfl rfl rfl (fun h hc hf => ?_)
        refine jm_aload_n d_B_change_101 rfl ?_
        refine jm_iconstL (v := 0) d_B_change_102 (by decide) ?_
        refine cr_put 27 0 _ d_B_change_103 f_B_221 hc hf rfl rfl rfl rfl (by decide) (by decide) rfl rfl rfl (fun h hc hf => ?_)
        obtain ⟨A, dd, W⟩ := inv_WI hI s2
        obtain ⟨W3, hP⟩ := chg_W W hT hst hk hl hpn epf hv' hw' hcost eq10 hq8
        
        refine jm_aload_n d_B_change_106 rfl ?_
        refine jm_aload_n d_B_change_107 rfl ?_
        refine cr_get 78 0 d_B_change_108 f_B_11 hc rfl rfl rfl rfl (v := .ref (L 0 0)) rfl ?_
        refine jm_iload_n d_B_change_111 rfl ?_
        refine cr_ald 3 70 k (e := k) d_B_change_112 (by decide) rfl hc (show k < sz 1 0 by omega) rfl rfl rfl rfl (by have := hc.B.1; omega) (by decide) (v := .ref (L 1 k)) rfl ?_
        refine cr_get 17 k d_B_change_113 f_B_224 hc (show k < sz 1 0 by omega) rfl rfl rfl (v := .int (S 17 k)) (by show Value.int ((mu (mu (mu C 64 (16 * p + (if C 62 p = nI k then 4 * v' + w' else 4 * w' + v')) c) 12 q (C 12 q + 1)) 27 0 0) 17 k) = _; rw [mu_row (by decide), mu_row (by decide), mu_row (by decide), c17]) ?_
        refine jm_iload_n d_B_change_116 rfl ?_
        refine jm_callSp (As := [_, _]) d_B_change_117 l_B_227 sw_B_contains nv_B_contains rfl (Nat.le_of_ble_eq_true rfl) (by omega : 0 + 1 ≤ _) (k_B_contains _ _) ?_
        first | refine jm_bz_eq 132 d_B_change_120 (by decide) (fun hb120 => ?_) (fun hb120 => ?_) | refine jm_if_eq 132 d_B_change_120 (by decide) (fun hb120 => ?_) (fun hb120 => ?_)
        · rw [if_neg hb120] at W3 hP
          refine jm_aload_n d_B_change_132 rfl ?_
          refine cr_get 78 0 d_B_change_133 f_B_11 hc rfl rfl rfl rfl (v := .ref (L 0 0)) rfl ?_
          refine jm_iload_n d_B_change_136 rfl ?_
          refine cr_ald 3 70 l (e := l) d_B_change_137 (by decide) rfl hc (show l < sz 1 0 by omega) rfl rfl rfl rfl (by have := hc.B.1; omega) (by decide) (v := .ref (L 1 l)) rfl ?_
          refine jm_aload d_B_change_138 rfl ?_
          refine cr_get 12 q d_B_change_140 f_B_216 hc (show q < 8 ∧ sz 5 q = 1 from ⟨by omega, hq5⟩) rfl rfl rfl (v := .int (S 12 q + 1)) (by show Value.int ((mu (mu (mu C 64 (16 * p + (if C 62 p = nI k then 4 * v' + w' else 4 * w' + v')) c) 12 q (C 12 q + 1)) 27 0 0) 12 q) = _; rw [mu_row (by decide), mu_same, e12]) ?_
          refine cr_call (r := ("BargainTree", jm_F0, 9)) (As := [_, _]) d_B_change_143 l_B_125 iw_B_makeTable ew_B_makeTable rfl nv_B_makeTable rfl (hc.1 1 0 rfl).1 (Nat.le_of_ble_eq_true rfl) (by omega : 4 + 1 ≤ _) (by omega) (by omega) (kw_B_makeTable (by omega) W3 hP) hc hf (fun X L' sz' C' q => by cases q.1) (fun v9 L3 ρ3 sz3 C3 h3 hq3 hc3 hf3 _ => ?_)
          obtain ⟨e0, hk3, nl3, W4⟩ := hq3
          cases e0
          refine jm_aload_n d_B_change_146 rfl ?_
          refine cr_get 34 0 d_B_change_147 f_B_139 hc3 rfl rfl rfl rfl (v := .int (nI nl3)) (by show Value.int (C3 34 0) = _; rw [W4.2.2.1.1.2.2.1]) ?_
          exact jm_iret d_B_change_150 rfl ⟨L3, ρ3, sz3, C3, Or.inr (Or.inr ⟨th0, hk3, k, l, p, v', w', q, nl3, A, dd, ⟨hk, hl, rfl, rfl, epf, hpn, hv', hw', rfl, rfl, eq10, hq8⟩, rfl, by rw [if_neg hb120]; exact W4⟩), hc3, hf3⟩
        · rw [if_pos hb120] at W3 hP
          refine jm_aload_n d_B_change_123 rfl ?_
          refine cr_get 78 0 d_B_change_124 f_B_11 hc rfl rfl rfl rfl (v := .ref (L 0 0)) rfl ?_
          refine jm_iload_n d_B_change_127 rfl ?_
          refine cr_ald 3 70 k (e := k) d_B_change_128 (by decide) rfl hc (show k < sz 1 0 by omega) rfl rfl rfl rfl (by have := hc.B.1; omega) (by decide) (v := .ref (L 1 k)) rfl ?_
          refine jm_goto 138 d_B_change_129 (by decide) ?_
          refine jm_aload d_B_change_138 rfl ?_
          refine cr_get 12 q d_B_change_140 f_B_216 hc (show q < 8 ∧ sz 5 q = 1 from ⟨by omega, hq5⟩) rfl rfl rfl (v := .int (S 12 q + 1)) (by show Value.int ((mu (mu (mu C 64 (16 * p + (if C 62 p = nI k then 4 * v' + w' else 4 * w' + v')) c) 12 q (C 12 q + 1)) 27 0 0) 12 q) = _; rw [mu_row (by decide), mu_same, e12]) ?_
          refine cr_call (r := ("BargainTree", jm_F0, 9)) (As := [_, _]) d_B_change_143 l_B_125 iw_B_makeTable ew_B_makeTable rfl nv_B_makeTable rfl (hc.1 1 0 rfl).1 (Nat.le_of_ble_eq_true rfl) (by omega : 4 + 1 ≤ _) (by omega) (by omega) (kw_B_makeTable (by omega) W3 hP) hc hf (fun X L' sz' C' q => by cases q.1) (fun v9 L3 ρ3 sz3 C3 h3 hq3 hc3 hf3 _ => ?_)
          obtain ⟨e0, hk3, nl3, W4⟩ := hq3
          cases e0
          refine jm_aload_n d_B_change_146 rfl ?_
          refine cr_get 34 0 d_B_change_147 f_B_139 hc3 rfl rfl rfl rfl (v := .int (nI nl3)) (by show Value.int (C3 34 0) = _; rw [W4.2.2.1.1.2.2.1]) ?_
          exact jm_iret d_B_change_150 rfl ⟨L3, ρ3, sz3, C3, Or.inr (Or.inr ⟨th0, hk3, k, l, p, v', w', q, nl3, A, dd, ⟨hk, hl, rfl, rfl, epf, hpn, hv', hw', rfl, rfl, eq10, hq8⟩, rfl, by rw [if_pos hb120]; exact W4⟩), hc3, hf3⟩
      · refine jm_iload d_B_change_46 rfl ?_
        refine jm_iconstL (v := 2) d_B_change_48 (by decide) ?_
        refine jm_icmp_eq 62 d_B_change_49 (by decide) (fun hb49 => ?_) (fun hb49 => ?_)
        · have hst : stF S n = 1 ∨ stF S n = 2 := by first | exact Or.inl hb43 | exact Or.inr hb49
          have hwv : isVaC C a v ∧ isVaC C b w := by
            rcases Decidable.em (isVaC C a v ∧ isVaC C b w) with q | q
            · exact q
            · unfold pwC at hq; rw [if_neg q] at hq; exact absurd rfl hq
          obtain ⟨k, v', hk, hv', rfl, rfl⟩ := vaC_ix hn h8 (z4_of hI) hwv.1
          obtain ⟨l, w', hl, hw', rfl, rfl⟩ := vaC_ix hn h8 (z4_of hI) hwv.2
          have epf : pairF S (nI k) (nI l) np 0 = nI p := by
            have e : pfC (C 62) (C 63) (nI k) (nI l) np 0 = pairF S (nI k) (nI l) np 0 := pf_eq hI.2.1.2.2.2.2.2.2.2.1 (bi_fg hI.1) _ _ np 0 (by omega)
            unfold pwC at ep; rw [if_pos hwv] at ep; rw [← e]; exact ep
          have th0 : thChange S n np (nI k) (nI l) (nI v') (nI w') c = 0 := by
            unfold thChange thF
            rw [if_neg (not_not_intro ((pc_same hI _ _ _ _ c).mpr ⟨hq, hb21⟩)), if_neg (fun z => hst.elim z.1 z.2)]
          have hcost : isCostS c := hb21
          have s2 : S 2 0 ≠ 0 := (st_12 hst).1
          obtain ⟨q, r9, c10, hq8, hq5, c11, -⟩ := (inv_pt hI).1 s2 k hk
          have eq10 : S 10 k = nI q := by rw [← (hI.2.1.2.1 k hk).2.2.1]; exact c10
          have e12 : C 12 q = S 12 q := (hI.2.1.2.2.2.2.2.2.2.2.1.2 q hq8 hq5).2.1
          have c17 : C 17 k = S 17 k := (hI.2.1.2.1 k hk).2.2.2.2.2.1
          have hks : k < sz 1 0 := by omega
          have hls : l < sz 1 0 := by omega
          refine jm_aload d_B_change_62 rfl ?_
          refine cr_getG 76 p d_B_change_64 f_B_102 hc (show p < sz 6 0 by omega) rfl rfl rfl (v := .ref (L 7 p)) rfl ?_
          refine jm_aload d_B_change_67 rfl ?_
          refine jm_iload_n d_B_change_69 rfl ?_
          refine jm_iload_n d_B_change_70 rfl ?_
          refine jm_iload d_B_change_71 rfl ?_
          refine cr_callp (r := ("BargainTree$Pair", jm_F4, 3)) (As := [_, _, _]) d_B_change_73 l_B_105 iw_Q_place ew_Q_place rfl nv_Q_place rfl (hc.1 62 p (show p < sz 6 0 by omega)).1 (Nat.le_of_ble_eq_true rfl) (by omega : 0 + 1 ≤ _) (k_Q_place (by omega) _ _ _) hc ?_
          have epl : (if nI k = C 62 p then nI v' * 4 + nI w' else nI w' * 4 + nI v') = nI (if C 62 p = nI k then 4 * v' + w' else 4 * w' + v') := by
            by_cases q : C 62 p = nI k
            · rw [if_pos q, if_pos q.symm, show (4 : Int32) = nI 4 from rfl, pk_mul, nI_add, Nat.mul_comm]
            · rw [if_neg q, if_neg (fun z => q z.symm), show (4 : Int32) = nI 4 from rfl, pk_mul, nI_add, Nat.mul_comm]
          rw [epl]
          have hpl : (if C 62 p = nI k then 4 * v' + w' else 4 * w' + v') < 16 := by split <;> omega
          refine jm_iload d_B_change_76 rfl ?_
          refine cr_istR p ((if C 62 p = nI k then 4 * v' + w' else 4 * w' + v')) d_B_change_78 hc hf (by omega) (by omega) rfl (fun h hc hf => ?_)
          refine jm_aload_n d_B_change_79 rfl ?_
          refine cr_get 78 0 d_B_change_80 f_B_11 hc rfl rfl rfl rfl (v := .ref (L 0 0)) rfl ?_
          refine jm_iload_n d_B_change_83 rfl ?_
          refine cr_ald 3 70 k (e := k) d_B_change_84 (by decide) rfl hc (show k < sz 1 0 by omega) rfl rfl rfl rfl (by have := hc.B.1; omega) (by decide) (v := .ref (L 1 k)) rfl ?_
          refine cr_get 10 k d_B_change_85 f_B_212 hc (show k < sz 1 0 by omega) rfl rfl rfl (v := .ref (L 5 q)) (by show cE Γ L 10 k (mu C 64 _ c 10 k) = _; rw [mu_row (by decide)]; exact cE_part c10 hq8) ?_
          refine jm_astore d_B_change_88 (Nat.le_of_ble_eq_true rfl) ?_
          refine jm_aload d_B_change_90 rfl ?_
          refine jm_dup d_B_change_92 rfl ?_
          refine cr_get 12 q d_B_change_93 f_B_216 hc (show q < 8 ∧ sz 5 q = 1 from ⟨by omega, hq5⟩) rfl rfl rfl (v := .int (C 12 q)) (by show Value.int (mu C 64 _ c 12 q) = _; rw [mu_row (by decide)]) ?_
          refine jm_iconstL (v := 1) d_B_change_96 (by decide) ?_
          refine jm_iadd d_B_change_97 ?_
          refine cr_put 12 q _ d_B_change_98 f_B_216 hc hf (show q < 8 ∧ sz 5 q = 1 from ⟨by omega, hq5⟩) rfl rfl rfl (by decide) (by decide) rfl rfl rfl (fun h hc hf => ?_)
          refine jm_aload_n d_B_change_101 rfl ?_
          refine jm_iconstL (v := 0) d_B_change_102 (by decide) ?_
          refine cr_put 27 0 _ d_B_change_103 f_B_221 hc hf rfl rfl rfl rfl (by decide) (by decide) rfl rfl rfl (fun h hc hf => ?_)
          obtain ⟨A, dd, W⟩ := inv_WI hI s2
          obtain ⟨W3, hP⟩ := chg_W W hT hst hk hl hpn epf hv' hw' hcost eq10 hq8
          
          refine jm_aload_n d_B_change_106 rfl ?_
          refine jm_aload_n d_B_change_107 rfl ?_
          refine cr_get 78 0 d_B_change_108 f_B_11 hc rfl rfl rfl rfl (v := .ref (L 0 0)) rfl ?_
          refine jm_iload_n d_B_change_111 rfl ?_
          refine cr_ald 3 70 k (e := k) d_B_change_112 (by decide) rfl hc (show k < sz 1 0 by omega) rfl rfl rfl rfl (by have := hc.B.1; omega) (by decide) (v := .ref (L 1 k)) rfl ?_
          refine cr_get 17 k d_B_change_113 f_B_224 hc (show k < sz 1 0 by omega) rfl rfl rfl (v := .int (S 17 k)) (by show Value.int ((mu (mu (mu C 64 (16 * p + (if C 62 p = nI k then 4 * v' + w' else 4 * w' + v')) c) 12 q (C 12 q + 1)) 27 0 0) 17 k) = _; rw [mu_row (by decide), mu_row (by decide), mu_row (by decide), c17]) ?_
          refine jm_iload_n d_B_change_116 rfl ?_
          refine jm_callSp (As := [_, _]) d_B_change_117 l_B_227 sw_B_contains nv_B_contains rfl (Nat.le_of_ble_eq_true rfl) (by omega : 0 + 1 ≤ _) (k_B_contains _ _) ?_
          first | refine jm_bz_eq 132 d_B_change_120 (by decide) (fun hb120 => ?_) (fun hb120 => ?_) | refine jm_if_eq 132 d_B_change_120 (by decide) (fun hb120 => ?_) (fun hb120 => ?_)
          · rw [if_neg hb120] at W3 hP
            refine jm_aload_n d_B_change_132 rfl ?_
            refine cr_get 78 0 d_B_change_133 f_B_11 hc rfl rfl rfl rfl (v := .ref (L 0 0)) rfl ?_
            refine jm_iload_n d_B_change_136 rfl ?_
            refine cr_ald 3 70 l (e := l) d_B_change_137 (by decide) rfl hc (show l < sz 1 0 by omega) rfl rfl rfl rfl (by have := hc.B.1; omega) (by decide) (v := .ref (L 1 l)) rfl ?_
            refine jm_aload d_B_change_138 rfl ?_
            refine cr_get 12 q d_B_change_140 f_B_216 hc (show q < 8 ∧ sz 5 q = 1 from ⟨by omega, hq5⟩) rfl rfl rfl (v := .int (S 12 q + 1)) (by show Value.int ((mu (mu (mu C 64 (16 * p + (if C 62 p = nI k then 4 * v' + w' else 4 * w' + v')) c) 12 q (C 12 q + 1)) 27 0 0) 12 q) = _; rw [mu_row (by decide), mu_same, e12]) ?_
            refine cr_call (r := ("BargainTree", jm_F0, 9)) (As := [_, _]) d_B_change_143 l_B_125 iw_B_makeTable ew_B_makeTable rfl nv_B_makeTable rfl (hc.1 1 0 rfl).1 (Nat.le_of_ble_eq_true rfl) (by omega : 4 + 1 ≤ _) (by omega) (by omega) (kw_B_makeTable (by omega) W3 hP) hc hf (fun X L' sz' C' q => by cases q.1) (fun v9 L3 ρ3 sz3 C3 h3 hq3 hc3 hf3 _ => ?_)
            obtain ⟨e0, hk3, nl3, W4⟩ := hq3
            cases e0
            refine jm_aload_n d_B_change_146 rfl ?_
            refine cr_get 34 0 d_B_change_147 f_B_139 hc3 rfl rfl rfl rfl (v := .int (nI nl3)) (by show Value.int (C3 34 0) = _; rw [W4.2.2.1.1.2.2.1]) ?_
            exact jm_iret d_B_change_150 rfl ⟨L3, ρ3, sz3, C3, Or.inr (Or.inr ⟨th0, hk3, k, l, p, v', w', q, nl3, A, dd, ⟨hk, hl, rfl, rfl, epf, hpn, hv', hw', rfl, rfl, eq10, hq8⟩, rfl, by rw [if_neg hb120]; exact W4⟩), hc3, hf3⟩
          · rw [if_pos hb120] at W3 hP
            refine jm_aload_n d_B_change_123 rfl ?_
            refine cr_get 78 0 d_B_change_124 f_B_11 hc rfl rfl rfl rfl (v := .ref (L 0 0)) rfl ?_
            refine jm_iload_n d_B_change_127 rfl ?_
            refine cr_ald 3 70 k (e := k) d_B_change_128 (by decide) rfl hc (show k < sz 1 0 by omega) rfl rfl rfl rfl (by have := hc.B.1; omega) (by decide) (v := .ref (L 1 k)) rfl ?_
            refine jm_goto 138 d_B_change_129 (by decide) ?_
            refine jm_aload d_B_change_138 rfl ?_
            refine cr_get 12 q d_B_change_140 f_B_216 hc (show q < 8 ∧ sz 5 q = 1 from ⟨by omega, hq5⟩) rfl rfl rfl (v := .int (S 12 q + 1)) (by show Value.int ((mu (mu (mu C 64 (16 * p + (if C 62 p = nI k then 4 * v' + w' else 4 * w' + v')) c) 12 q (C 12 q + 1)) 27 0 0) 12 q) = _; rw [mu_row (by decide), mu_same, e12]) ?_
            refine cr_call (r := ("BargainTree", jm_F0, 9)) (As := [_, _]) d_B_change_143 l_B_125 iw_B_makeTable ew_B_makeTable rfl nv_B_makeTable rfl (hc.1 1 0 rfl).1 (Nat.le_of_ble_eq_true rfl) (by omega : 4 + 1 ≤ _) (by omega) (by omega) (kw_B_makeTable (by omega) W3 hP) hc hf (fun X L' sz' C' q => by cases q.1) (fun v9 L3 ρ3 sz3 C3 h3 hq3 hc3 hf3 _ => ?_)
            obtain ⟨e0, hk3, nl3, W4⟩ := hq3
            cases e0
            refine jm_aload_n d_B_change_146 rfl ?_
            refine cr_get 34 0 d_B_change_147 f_B_139 hc3 rfl rfl rfl rfl (v := .int (nI nl3)) (by show Value.int (C3 34 0) = _; rw [W4.2.2.1.1.2.2.1]) ?_
            exact jm_iret d_B_change_150 rfl ⟨L3, ρ3, sz3, C3, Or.inr (Or.inr ⟨th0, hk3, k, l, p, v', w', q, nl3, A, dd, ⟨hk, hl, rfl, rfl, epf, hpn, hv', hw', rfl, rfl, eq10, hq8⟩, rfl, by rw [if_pos hb120]; exact W4⟩), hc3, hf3⟩
        · exact jm_throw (tx := "something is still to be done") d_B_change_52 d_B_change_55 d_B_change_56 d_B_change_58 d_B_change_61 x_1 (by decide +kernel) rfl (by omega) (by omega) (by simp; omega) (by decide) (Nat.le_of_ble_eq_true rfl) ⟨L, ρ, sz, C, Or.inr (Or.inl ⟨by unfold thChange thF; rw [if_neg (not_not_intro ((pc_same hI a b v w c).mpr ⟨hq, hb21⟩)), if_pos ⟨hb43, hb49⟩], rfl, rfl, rfl, rfl⟩), hc, hf⟩
    · exact jm_throw (tx := "no such pair, value or cost") d_B_change_24 d_B_change_27 d_B_change_28 d_B_change_30 d_B_change_33 x_0 (by decide +kernel) rfl (by omega) (by omega) (by simp; omega) (by decide) (Nat.le_of_ble_eq_true rfl) ⟨L, ρ, sz, C, Or.inl ⟨by unfold thChange thF; rw [if_pos (fun z => hb21 ((pc_same hI a b v w c).mp z).2)], rfl, rfl, rfl, rfl⟩, hc, hf⟩
end
