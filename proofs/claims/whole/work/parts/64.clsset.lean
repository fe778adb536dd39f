/-! THE CLASS: own, cost, pair. Written by wip/whole/gen/p64.py -/
section
variable {Γ : jm_G} {h h0 : jm_H} {x : Nat} {L : Nat → Nat → Nat} {ρ ρ0 : Nat → Nat} {sz : Nat → Nat → Nat} {C : mS}
theorem vaC_ix {n : Nat} (hn : C 1 0 = nI n) (h8 : n ≤ 8) (hz : ∀ k, k < n → ∃ z, z ≤ 4 ∧ C 3 k = nI z) {a v : Int32} (h : isVaC C a v) : ∃ k w, k < n ∧ w < 4 ∧ a = nI k ∧ v = nI w := by
  obtain ⟨k, hk, rfl⟩ := agC_ix hn h8 h.1
  obtain ⟨z, hz4, e⟩ := hz k hk
  have h3 := h.2.2
  rw [nI_clamp (by omega), e] at h3
  obtain ⟨w, hw, rfl⟩ := nI_of (x := v) (fun q => absurd (Int32.lt_of_le_of_lt h.2.1 q) (by decide))
  refine ⟨k, w, hk, ?_, rfl, rfl⟩
  rcases Nat.lt_or_ge w 4 with q | q
  · exact q
  · exact absurd h3 (nI_nlt (by omega) hw)
end
section
variable {Γ : jm_G} {d x : Nat} {L sz : Nat → Nat → Nat} {C : mS} {h : jm_H} {ρ : Nat → Nat}
theorem k_B_own {n : Nat} (hd : 8 ≤ d) (hn : C 1 0 = nI n) (hs : sz 1 0 = n) (h8 : n ≤ 8) (hz : ∀ k, k < n → ∃ z, z ≤ 4 ∧ C 3 k = nI z) {a v c : Int32} : cM Γ m_B_own d x [.ref x, .int a, .int v, .int c] L sz C 1 6 (fun oc L' sz' C' => (¬ (isVaC C a v ∧ (c = -2 ∨ (0 ≤ c ∧ c ≤ 999))) ∧ oc = .inr 0 ∧ L' = L ∧ sz' = sz ∧ C' = C) ∨ ((isVaC C a v ∧ (c = -2 ∨ (0 ≤ c ∧ c ≤ 999))) ∧ C 60 0 = 0 ∧ oc = .inr 1 ∧ L' = L ∧ sz' = sz ∧ C' = C) ∨ ((isVaC C a v ∧ (c = -2 ∨ (0 ≤ c ∧ c ≤ 999))) ∧ ¬ C 60 0 = 0 ∧ oc = .inl none ∧ sz' = sz ∧ ∃ k w, k < n ∧ w < 4 ∧ a = nI k ∧ v = nI w ∧ C' = mu C 4 (4 * k + w) c)) := by
  intro h ρ hc
  have hf : xt ρ h ρ h := xt.rf
  refine jm_entry (by decide +kernel) (List.forall_mem_cons.mpr ⟨rfl, List.forall_mem_cons.mpr ⟨rfl, List.forall_mem_cons.mpr ⟨rfl, List.forall_mem_cons.mpr ⟨rfl, fun _ h => nomatch h⟩⟩⟩⟩) (Nat.le_of_ble_eq_true rfl) ?_
  show jm_W _ _ _ _ _ _ 0 [some (.ref x), some (.int a), some (.int v), some (.int c)] [] _
  refine jm_aload_n d_B_own_0 rfl ?_
  refine jm_iload_n d_B_own_1 rfl ?_
  refine jm_iload_n d_B_own_2 rfl ?_
  refine cr_callp (r := ("BargainTree", jm_F0, 9)) (As := [_, _]) d_B_own_3 l_B_54 iw_B_isValue ew_B_isValue rfl nv_B_isValue rfl (hc.1 1 0 rfl).1 (Nat.le_of_ble_eq_true rfl) (by omega : 1 + 1 ≤ _) (k_B_isValue (by omega) hn hs h8 _ _) hc ?_
  first | refine jm_bz_eq 16 d_B_own_6 (by decide) (fun hb6 => ?_) (fun hb6 => ?_) | refine jm_if_eq 16 d_B_own_6 (by decide) (fun hb6 => ?_) (fun hb6 => ?_)
  · exact jm_throw (tx := "no such agent, value or cost") d_B_own_16 d_B_own_19 d_B_own_20 d_B_own_22 d_B_own_25 x_0 (by decide +kernel) rfl (by omega) (by omega) (by simp; omega) (by decide) (Nat.le_of_ble_eq_true rfl) ⟨L, ρ, sz, C, Or.inl ⟨by first | exact fun q => hb6 q.1 | exact fun q => hb13 q.2, rfl, rfl, rfl, rfl⟩, hc, hf⟩
  · refine jm_iload_n d_B_own_9 rfl ?_
    refine jm_callSp (As := [_]) d_B_own_10 l_B_58 sw_B_isCost nv_B_isCost rfl (Nat.le_of_ble_eq_true rfl) (by omega : 0 + 1 ≤ _) (k_B_isCost _) ?_
    first | refine jm_bz_ne 26 d_B_own_13 (by decide) (fun hb13 => ?_) (fun hb13 => ?_) | refine jm_if_ne 26 d_B_own_13 (by decide) (fun hb13 => ?_) (fun hb13 => ?_)
    · refine jm_aload_n d_B_own_26 rfl ?_
      refine cr_get 60 0 d_B_own_27 f_B_31 hc rfl rfl rfl rfl (v := .int (C 60 0)) rfl ?_
      first | refine jm_bz_ne 43 d_B_own_30 (by decide) (fun hb30 => ?_) (fun hb30 => ?_) | refine jm_if_ne 43 d_B_own_30 (by decide) (fun hb30 => ?_) (fun hb30 => ?_)
      · obtain ⟨k, w, hk, hw, rfl, rfl⟩ := vaC_ix hn h8 hz hb6
        refine jm_aload_n d_B_own_43 rfl ?_
        refine cr_get 78 0 d_B_own_44 f_B_11 hc rfl rfl rfl rfl (v := .ref (L 0 0)) rfl ?_
        refine jm_iload_n d_B_own_47 rfl ?_
        refine cr_ald 3 70 k (e := k) d_B_own_48 (by decide) rfl hc (show k < sz 1 0 by omega) rfl rfl rfl rfl (by have := hc.B.1; omega) (by decide) (v := .ref (L 1 k)) rfl ?_
        refine cr_getG 72 k d_B_own_49 f_B_66 hc (show k < sz 1 0 by omega) rfl rfl rfl (v := .ref (L 2 k)) rfl ?_
        refine jm_iload_n d_B_own_52 rfl ?_
        refine jm_iload_n d_B_own_53 rfl ?_
        refine cr_istO k w d_B_own_54 hc hf (by omega) (by omega) rfl (fun h hc hf => ?_)
        exact jm_vret d_B_own_55 rfl ⟨_, _, _, _, Or.inr (Or.inr ⟨⟨hb6, hb13⟩, hb30, rfl, rfl, k, w, hk, hw, rfl, rfl, rfl⟩), hc, hf⟩
      · exact jm_throw (tx := "started already") d_B_own_33 d_B_own_36 d_B_own_37 d_B_own_39 d_B_own_42 x_1 (by decide +kernel) rfl (by omega) (by omega) (by simp; omega) (by decide) (Nat.le_of_ble_eq_true rfl) ⟨L, ρ, sz, C, Or.inr (Or.inl ⟨⟨hb6, hb13⟩, Decidable.not_not.mp hb30, rfl, rfl, rfl, rfl⟩), hc, hf⟩
    · exact jm_throw (tx := "no such agent, value or cost") d_B_own_16 d_B_own_19 d_B_own_20 d_B_own_22 d_B_own_25 x_0 (by decide +kernel) rfl (by omega) (by omega) (by simp; omega) (by decide) (Nat.le_of_ble_eq_true rfl) ⟨L, ρ, sz, C, Or.inl ⟨by first | exact fun q => hb6 q.1 | exact fun q => hb13 q.2, rfl, rfl, rfl, rfl⟩, hc, hf⟩
theorem k_B_cost {n np : Nat} (hd : 8 ≤ d) (hn : C 1 0 = nI n) (hs8 : sz 1 0 = n) (h8 : n ≤ 8) (hz : ∀ k, k < n → ∃ z, z ≤ 4 ∧ C 3 k = nI z) (hp : C 5 0 = nI np) (hs : sz 6 0 = np) (h12 : np ≤ 12) {a b v w c : Int32} : cM Γ m_B_cost d x [.ref x, .int a, .int b, .int v, .int w, .int c] L sz C 1 6 (fun oc L' sz' C' => (¬ (pwC C np a b v w ≠ -1 ∧ (c = -2 ∨ (0 ≤ c ∧ c ≤ 999))) ∧ oc = .inr 0 ∧ L' = L ∧ sz' = sz ∧ C' = C) ∨ ((pwC C np a b v w ≠ -1 ∧ (c = -2 ∨ (0 ≤ c ∧ c ≤ 999))) ∧ C 60 0 = 0 ∧ oc = .inr 1 ∧ L' = L ∧ sz' = sz ∧ C' = C) ∨ ((pwC C np a b v w ≠ -1 ∧ (c = -2 ∨ (0 ≤ c ∧ c ≤ 999))) ∧ ¬ C 60 0 = 0 ∧ oc = .inl none ∧ sz' = sz ∧ ∃ p k v' w', p < np ∧ k < n ∧ v' < 4 ∧ w' < 4 ∧ pwC C np a b v w = nI p ∧ a = nI k ∧ v = nI v' ∧ w = nI w' ∧ C' = mu C 64 (16 * p + (if C 62 p = nI k then 4 * v' + w' else 4 * w' + v')) c)) := by
  intro h ρ hc
  have hf : xt ρ h ρ h := xt.rf
  refine jm_entry (by decide +kernel) (List.forall_mem_cons.mpr ⟨rfl, List.forall_mem_cons.mpr ⟨rfl, List.forall_mem_cons.mpr ⟨rfl, List.forall_mem_cons.mpr ⟨rfl, List.forall_mem_cons.mpr ⟨rfl, List.forall_mem_cons.mpr ⟨rfl, fun _ h => nomatch h⟩⟩⟩⟩⟩⟩) (Nat.le_of_ble_eq_true rfl) ?_
  show jm_W _ _ _ _ _ _ 0 [some (.ref x), some (.int a), some (.int b), some (.int v), some (.int w), some (.int c), none] [] _
  refine jm_aload_n d_B_cost_0 rfl ?_
  refine jm_iload_n d_B_cost_1 rfl ?_
  refine jm_iload_n d_B_cost_2 rfl ?_
  refine jm_iload_n d_B_cost_3 rfl ?_
  refine jm_iload d_B_cost_4 rfl ?_
  rcases Decidable.em (pwC C np a b v w = -1) with hq | hq
  · refine cr_callp (r := ("BargainTree", jm_F0, 9)) (As := [_, _, _, _]) d_B_cost_6 l_B_96 iw_B_pairWith ew_B_pairWith rfl nv_B_pairWith rfl (hc.1 1 0 rfl).1 (Nat.le_of_ble_eq_true rfl) (by omega : 2 + 1 ≤ _) (k_B_pairWith (by omega) hn hs8 h8 hp hs h12 a b v w) hc ?_
    rw [show pvC L (pwC C np a b v w) = .null from if_pos hq]
    refine jm_astoreN d_B_cost_9 (Nat.le_of_ble_eq_true rfl) ?_
    refine jm_aloadN d_B_cost_11 rfl ?_
    refine jm_ifnullN 24 d_B_cost_13 (by decide) ?_
    exact jm_throw (tx := "no such pair, value or cost") d_B_cost_24 d_B_cost_27 d_B_cost_28 d_B_cost_30 d_B_cost_33 x_0 (by decide +kernel) rfl (by omega) (by omega) (by simp; omega) (by decide) (Nat.le_of_ble_eq_true rfl) ⟨L, ρ, sz, C, Or.inl ⟨fun q => q.1 hq, rfl, rfl, rfl, rfl⟩, hc, hf⟩
  · obtain ⟨p, hpn, ep⟩ : ∃ p, p < np ∧ pwC C np a b v w = nI p := by
      unfold pwC at hq ⊢
      split at hq
      · rename_i q
        rw [if_pos q]
        rcases pfC_ix (lo := C 62) (hi := C 63) (a := a) (b := b) np 0 with z | ⟨p, z1, z2, z3, -⟩
        · exact absurd z hq
        · exact ⟨p, by omega, z3⟩
      · exact absurd rfl hq
    refine cr_callp (r := ("BargainTree", jm_F0, 9)) (As := [_, _, _, _]) d_B_cost_6 l_B_96 iw_B_pairWith ew_B_pairWith rfl nv_B_pairWith rfl (hc.1 1 0 rfl).1 (Nat.le_of_ble_eq_true rfl) (by omega : 2 + 1 ≤ _) (k_B_pairWith (by omega) hn hs8 h8 hp hs h12 a b v w) hc ?_
    rw [show pvC L (pwC C np a b v w) = .ref (L 6 p) from by rw [pvC, if_neg hq, ep, nI_clamp (by omega)]]
    refine jm_astore d_B_cost_9 (Nat.le_of_ble_eq_true rfl) ?_
    refine jm_aload d_B_cost_11 rfl ?_
    refine jm_ifnull d_B_cost_13 ?_
    refine jm_iload d_B_cost_16 rfl ?_
    refine jm_callSp (As := [_]) d_B_cost_18 l_B_58 sw_B_isCost nv_B_isCost rfl (Nat.le_of_ble_eq_true rfl) (by omega : 0 + 1 ≤ _) (k_B_isCost _) ?_
    first | refine jm_bz_ne 34 d_B_cost_21 (by decide) (fun hb21 => ?_) (fun hb21 => ?_) | refine jm_if_ne 34 d_B_cost_21 (by decide) (fun hb21 => ?_) (fun hb21 => ?_)
    · refine jm_aload_n d_B_cost_34 rfl ?_
      refine cr_get 60 0 d_B_cost_35 f_B_31 hc rfl rfl rfl rfl (v := .int (C 60 0)) rfl ?_
      first | refine jm_bz_ne 51 d_B_cost_38 (by decide) (fun hb38 => ?_) (fun hb38 => ?_) | refine jm_if_ne 51 d_B_cost_38 (by decide) (fun hb38 => ?_) (fun hb38 => ?_)
      · have ep0 := ep
        unfold pwC at ep
        have hwv : isVaC C a v ∧ isVaC C b w := by
          rcases Decidable.em (isVaC C a v ∧ isVaC C b w) with q | q
          · exact q
          · rw [if_neg q] at ep
            exact absurd ep.symm (nI_m1 (by omega))
        obtain ⟨k, v', hk, hv', rfl, rfl⟩ := vaC_ix hn h8 hz hwv.1
        obtain ⟨l, w', hl, hw', rfl, rfl⟩ := vaC_ix hn h8 hz hwv.2
        have ep := ep0
        refine jm_aload d_B_cost_51 rfl ?_
        refine cr_getG 76 p d_B_cost_53 f_B_102 hc (show p < sz 6 0 by omega) rfl rfl rfl (v := .ref (L 7 p)) rfl ?_
        refine jm_aload d_B_cost_56 rfl ?_
        refine jm_iload_n d_B_cost_58 rfl ?_
        refine jm_iload_n d_B_cost_59 rfl ?_
        refine jm_iload d_B_cost_60 rfl ?_
        refine cr_callp (r := ("BargainTree$Pair", jm_F4, 3)) (As := [_, _, _]) d_B_cost_62 l_B_105 iw_Q_place ew_Q_place rfl nv_Q_place rfl (hc.1 62 p (show p < sz 6 0 by omega)).1 (Nat.le_of_ble_eq_true rfl) (by omega : 0 + 1 ≤ _) (k_Q_place (by omega) _ _ _) hc ?_
        have epl : (if nI k = C 62 p then nI v' * 4 + nI w' else nI w' * 4 + nI v') = nI (if C 62 p = nI k then 4 * v' + w' else 4 * w' + v') := by
          by_cases q : C 62 p = nI k
          · rw [if_pos q, if_pos q.symm, show (4 : Int32) = nI 4 from rfl, pk_mul, nI_add, Nat.mul_comm]
          · rw [if_neg q, if_neg (fun z => q z.symm), show (4 : Int32) = nI 4 from rfl, pk_mul, nI_add, Nat.mul_comm]
        rw [epl]
        have hpl : (if C 62 p = nI k then 4 * v' + w' else 4 * w' + v') < 16 := by split <;> omega
        refine jm_iload d_B_cost_65 rfl ?_
        refine cr_istR p ((if C 62 p = nI k then 4 * v' + w' else 4 * w' + v')) d_B_cost_67 hc hf (by omega) (by omega) rfl (fun h hc hf => ?_)
        exact jm_vret d_B_cost_68 rfl ⟨_, _, _, _, Or.inr (Or.inr ⟨⟨hq, hb21⟩, hb38, rfl, rfl, p, k, v', w', hpn, hk, hv', hw', ep, rfl, rfl, rfl, rfl⟩), hc, hf⟩
      · exact jm_throw (tx := "started already") d_B_cost_41 d_B_cost_44 d_B_cost_45 d_B_cost_47 d_B_cost_50 x_1 (by decide +kernel) rfl (by omega) (by omega) (by simp; omega) (by decide) (Nat.le_of_ble_eq_true rfl) ⟨L, ρ, sz, C, Or.inr (Or.inl ⟨⟨hq, hb21⟩, Decidable.not_not.mp hb38, rfl, rfl, rfl, rfl⟩), hc, hf⟩
    · exact jm_throw (tx := "no such pair, value or cost") d_B_cost_24 d_B_cost_27 d_B_cost_28 d_B_cost_30 d_B_cost_33 x_0 (by decide +kernel) rfl (by omega) (by omega) (by simp; omega) (by decide) (Nat.le_of_ble_eq_true rfl) ⟨L, ρ, sz, C, Or.inl ⟨fun q => hb21 q.2, rfl, rfl, rfl, rfl⟩, hc, hf⟩
theorem k_B_pair {n np : Nat} (hd : 8 ≤ d) (hn : C 1 0 = nI n) (hs8 : sz 1 0 = n) (h8 : n ≤ 8) (hp : C 5 0 = nI np) (hs : sz 6 0 = np) (h12 : np ≤ 12) {a b : Int32} : cM Γ m_B_pair d x [.ref x, .int a, .int b] L sz C 2 19 (fun oc L' sz' C' => (¬ (isAgC C a ∧ isAgC C b ∧ a ≠ b) ∧ oc = .inr 0 ∧ L' = L ∧ sz' = sz ∧ C' = C) ∨ ((isAgC C a ∧ isAgC C b ∧ a ≠ b) ∧ (C 60 0 = 0 ∨ C 5 0 = 12 ∨ pfC (C 62) (C 63) a b np 0 ≠ -1) ∧ oc = .inr 1 ∧ L' = L ∧ sz' = sz ∧ C' = C) ∨ ((isAgC C a ∧ isAgC C b ∧ a ≠ b) ∧ ¬ (C 60 0 = 0 ∨ C 5 0 = 12 ∨ pfC (C 62) (C 63) a b np 0 ≠ -1) ∧ np < 12 ∧ oc = .inl (some (.int (nI (np + 1)))) ∧ sz' = lu sz 6 0 (np + 1) ∧ ∃ k l, k < n ∧ l < n ∧ k ≠ l ∧ a = nI k ∧ b = nI l ∧ C' = mu (mu (mu (nwQ C np (if a ≤ b then a else b) (if b ≤ a then a else b)) 5 0 (nI (np + 1))) 9 k (C 9 k ||| 1 <<< (b &&& 31))) 9 l (C 9 l ||| 1 <<< (a &&& 31)))) := by
  intro h ρ hc
  have hf : xt ρ h ρ h := xt.rf
  refine jm_entry (by decide +kernel) (List.forall_mem_cons.mpr ⟨rfl, List.forall_mem_cons.mpr ⟨rfl, List.forall_mem_cons.mpr ⟨rfl, fun _ h => nomatch h⟩⟩⟩) (Nat.le_of_ble_eq_true rfl) ?_
  show jm_W _ _ _ _ _ _ 0 [some (.ref x), some (.int a), some (.int b)] [] _
  refine jm_aload_n d_B_pair_0 rfl ?_
  refine jm_iload_n d_B_pair_1 rfl ?_
  refine cr_callp (r := ("BargainTree", jm_F0, 9)) (As := [_]) d_B_pair_2 l_B_69 iw_B_isAgent ew_B_isAgent rfl nv_B_isAgent rfl (hc.1 1 0 rfl).1 (Nat.le_of_ble_eq_true rfl) (by omega : 0 + 1 ≤ _) (k_B_isAgent _) hc ?_
  first | refine jm_bz_eq 21 d_B_pair_5 (by decide) (fun hb5 => ?_) (fun hb5 => ?_) | refine jm_if_eq 21 d_B_pair_5 (by decide) (fun hb5 => ?_) (fun hb5 => ?_)
  · exact jm_throw (tx := "no such two agents") d_B_pair_21 d_B_pair_24 d_B_pair_25 d_B_pair_27 d_B_pair_30 x_0 (by decide +kernel) rfl (by omega) (by omega) (by simp; omega) (by decide) (Nat.le_of_ble_eq_true rfl) ⟨L, ρ, sz, C, Or.inl ⟨by first | exact fun q => hb5 q.1 | exact fun q => hb13 q.2.1 | exact fun q => hb18 q.2.2, rfl, rfl, rfl, rfl⟩, hc, hf⟩
  · refine jm_aload_n d_B_pair_8 rfl ?_
    refine jm_iload_n d_B_pair_9 rfl ?_
    refine cr_callp (r := ("BargainTree", jm_F0, 9)) (As := [_]) d_B_pair_10 l_B_69 iw_B_isAgent ew_B_isAgent rfl nv_B_isAgent rfl (hc.1 1 0 rfl).1 (Nat.le_of_ble_eq_true rfl) (by omega : 0 + 1 ≤ _) (k_B_isAgent _) hc ?_
    first | refine jm_bz_eq 21 d_B_pair_13 (by decide) (fun hb13 => ?_) (fun hb13 => ?_) | refine jm_if_eq 21 d_B_pair_13 (by decide) (fun hb13 => ?_) (fun hb13 => ?_)
    · exact jm_throw (tx := "no such two agents") d_B_pair_21 d_B_pair_24 d_B_pair_25 d_B_pair_27 d_B_pair_30 x_0 (by decide +kernel) rfl (by omega) (by omega) (by simp; omega) (by decide) (Nat.le_of_ble_eq_true rfl) ⟨L, ρ, sz, C, Or.inl ⟨by first | exact fun q => hb5 q.1 | exact fun q => hb13 q.2.1 | exact fun q => hb18 q.2.2, rfl, rfl, rfl, rfl⟩, hc, hf⟩
    · refine jm_iload_n d_B_pair_16 rfl ?_
      refine jm_iload_n d_B_pair_17 rfl ?_
      refine jm_icmp_ne 31 d_B_pair_18 (by decide) (fun hb18 => ?_) (fun hb18 => ?_)
      · refine jm_aload_n d_B_pair_31 rfl ?_
        refine cr_get 60 0 d_B_pair_32 f_B_31 hc rfl rfl rfl rfl (v := .int (C 60 0)) rfl ?_
        first | refine jm_bz_eq 56 d_B_pair_35 (by decide) (fun hb35 => ?_) (fun hb35 => ?_) | refine jm_if_eq 56 d_B_pair_35 (by decide) (fun hb35 => ?_) (fun hb35 => ?_)
        · exact jm_throw (tx := "no such pair can be made") d_B_pair_56 d_B_pair_59 d_B_pair_60 d_B_pair_62 d_B_pair_65 x_1 (by decide +kernel) rfl (by omega) (by omega) (by simp; omega) (by decide) (Nat.le_of_ble_eq_true rfl) ⟨L, ρ, sz, C, Or.inr (Or.inl ⟨⟨hb5, hb13, hb18⟩, by first | exact Or.inl hb35 | exact Or.inr (Or.inl hb44), rfl, rfl, rfl, rfl⟩), hc, hf⟩
        · refine jm_aload_n d_B_pair_38 rfl ?_
          refine cr_get 5 0 d_B_pair_39 f_B_74 hc rfl rfl rfl rfl (v := .int (C 5 0)) rfl ?_
          refine jm_bipushL (v := 12) d_B_pair_42 (by decide) ?_
          refine jm_icmp_eq 56 d_B_pair_44 (by decide) (fun hb44 => ?_) (fun hb44 => ?_)
          · exact jm_throw (tx := "no such pair can be made") d_B_pair_56 d_B_pair_59 d_B_pair_60 d_B_pair_62 d_B_pair_65 x_1 (by decide +kernel) rfl (by omega) (by omega) (by simp; omega) (by decide) (Nat.le_of_ble_eq_true rfl) ⟨L, ρ, sz, C, Or.inr (Or.inl ⟨⟨hb5, hb13, hb18⟩, by first | exact Or.inl hb35 | exact Or.inr (Or.inl hb44), rfl, rfl, rfl, rfl⟩), hc, hf⟩
          · refine jm_aload_n d_B_pair_47 rfl ?_
            refine jm_iload_n d_B_pair_48 rfl ?_
            refine jm_iload_n d_B_pair_49 rfl ?_
            rcases Decidable.em (pfC (C 62) (C 63) a b np 0 = -1) with hq | hq
            · refine cr_callp (r := ("BargainTree", jm_F0, 9)) (As := [_, _]) d_B_pair_50 l_B_77 iw_B_pairOf ew_B_pairOf rfl nv_B_pairOf rfl (hc.1 1 0 rfl).1 (Nat.le_of_ble_eq_true rfl) (by omega : 1 + 1 ≤ _) (k_B_pairOf (by omega) hp hs h12 a b) hc ?_
              rw [show pvC L (pfC (C 62) (C 63) a b np 0) = .null from if_pos hq]
              refine jm_ifnullN 66 d_B_pair_53 (by decide) ?_
              have hp12 : np < 12 := by
                rcases Nat.lt_or_ge np 12 with q | q
                · exact q
                · exact absurd (by rw [hp, show np = 12 by omega]; rfl) hb44
              obtain ⟨k, hk, rfl⟩ := agC_ix hn h8 hb5
              obtain ⟨l, hl, rfl⟩ := agC_ix hn h8 hb13
              have hkl : k ≠ l := fun e => hb18 (by rw [e])
              have hp9 : cE Γ L 5 0 (C 5 0) = .int (nI np) := by show Value.int (C 5 0) = _; rw [hp]
              refine jm_aload_n d_B_pair_66 rfl ?_
              refine cr_get 79 0 d_B_pair_67 f_B_17 hc rfl rfl rfl rfl (v := .ref (L 0 1)) rfl ?_
              refine jm_aload_n d_B_pair_70 rfl ?_
              refine cr_get 5 0 d_B_pair_71 f_B_74 hc rfl rfl rfl rfl (v := .int (nI np)) hp9 ?_
              refine jm_newobj (ci := 4) (N := 3) (dv := fun j => defaultValue (jm_Y4 j)) d_B_pair_74 rfl c_B_15 n_Q z_Q jm_Y4 jm_yok4 (fun _ _ => rfl) (by omega) (by omega) (fun q hq9 => ?_)
              have hc1 := co_nw (kn := (4, 0)) (dv := fun j => defaultValue (jm_Y4 j)) hc hq9 6
              obtain ⟨hf1, hq0⟩ := xt_nw (kn := (4, 0)) (dv := fun j => defaultValue (jm_Y4 j)) hf hq9 6
              refine jm_dup d_B_pair_77 rfl ?_
              refine jm_iload_n d_B_pair_78 rfl ?_
              refine jm_iload_n d_B_pair_79 rfl ?_
              refine jm_callSp (As := [_, _]) d_B_pair_80 l_B_83 sw_J_min nv_J_min rfl (Nat.le_of_ble_eq_true rfl) (by omega : 0 + 1 ≤ _) (k_J_min _ _) ?_
              refine jm_iload_n d_B_pair_83 rfl ?_
              refine jm_iload_n d_B_pair_84 rfl ?_
              refine jm_callSpX (As := [_, _]) d_B_pair_85 l_B_89 sw_J_max nv_J_max rfl (Nat.le_of_ble_eq_true rfl) (by omega : 0 + 1 ≤ _) (k_J_max _ _) ?_
              have kq : (jm_new h q (4, 0) (fun j => defaultValue (jm_Y4 j))).1 q = some (4, 0) := if_pos rfl
              refine jm_callI (As := [_, _]) d_B_pair_88 rfl rfl rfl l_B_92 iw_Q_init nv_Q_init rfl (Nat.le_of_ble_eq_true rfl) (by omega : 1 + 1 ≤ _) (by decide) (by decide) (k_Q_init (by omega) kq) (fun v h' hq' => ?_) (fun X h' hq' => by cases hq'.1)
              obtain ⟨e0, q2, hq2, rfl⟩ := hq'
              cases e0
              have n2 : q ≠ q2 := fun e => by rw [← e, kq] at hq2; cases hq2
              have n2' := Ne.symm n2
              obtain ⟨x1, x2⟩ := xt_nw (kn := (100, 16)) (dv := fun _ => .int 0) hf1 hq2 6
              have c1 := co_nw (kn := (100, 16)) (dv := fun _ => .int 0) hc1 hq2 6
              have r1 : rl (rl ρ q 6) q2 6 q = 6 := (rl_ne n2).trans rl_eq
              have hc2 := co_wp (t := 4) (i := 1) (v := .int (if nI l ≤ nI k then nI k else nI l)) (co_wp (t := 4) (i := 0) (v := .int (if nI k ≤ nI l then nI k else nI l)) (co_wp (t := 4) (i := 2) (v := .ref q2) c1 r1) r1) r1
              have hf2 := xt_wp (t := 4) (i := 1) (v := .int (if nI l ≤ nI k then nI k else nI l)) (xt_wp (t := 4) (i := 0) (v := .int (if nI k ≤ nI l then nI k else nI l)) (xt_wp (t := 4) (i := 2) (v := .ref q2) x1 hq0) hq0) hq0
              refine jm_aastore 4 d_B_pair_91 (by decide) hc2.2.1.2.2.1 (vp_in_nI (show np < 12 from hp12) (by decide)) (kq_new (kn := (100, 16)) (dv := fun _ => .int 0) kq hq2) rfl rfl ?_
              rw [nI_clamp (show np < 2 ^ 31 by omega)]
              obtain ⟨hc3, hf3⟩ := co_pr (lo := if nI k ≤ nI l then nI k else nI l) (hi := if nI l ≤ nI k then nI k else nI l) hc2 hf2 hq0 x2 r1 (if_pos rfl) (kq_new (kn := (100, 16)) (dv := fun _ => .int 0) kq hq2) (by simp [jm_set, jm_new]) (by simp [jm_set]) (by simp [jm_set]) (by simp [jm_set]) (fun i hi => by simp [jm_set, jm_new, n2']) hs hp12
              have hp3 : cE Γ L 5 0 (nwQ C np (if nI k ≤ nI l then nI k else nI l) (if nI l ≤ nI k then nI k else nI l) 5 0) = .int (nI np) := by show Value.int (nwQ C np _ _ 5 0) = _; rw [nwQ_row (by decide) (by decide) (by decide), hp]
              refine jm_aload_n d_B_pair_92 rfl ?_
              refine jm_dup d_B_pair_93 rfl ?_
              refine cr_get 5 0 d_B_pair_94 f_B_74 hc3 rfl rfl rfl rfl (v := .int (nI np)) hp3 ?_
              refine jm_iconstL (v := 1) d_B_pair_97 (by decide) ?_
              refine jm_iadd d_B_pair_98 ?_
              rw [nI_1]
              refine cr_put 5 0 _ d_B_pair_99 f_B_74 hc3 hf3 rfl rfl rfl rfl (by decide) (by decide) rfl rfl rfl (fun h hc hf => ?_)
              generalize (lu (lu L 6 np q) 7 np q2) = L2 at hc
              have hs' : lu sz 6 0 (np + 1) 1 0 = n := hs8
              refine jm_aload_n d_B_pair_102 rfl ?_
              refine cr_get 78 0 d_B_pair_103 f_B_11 hc rfl rfl rfl rfl (v := .ref (L2 0 0)) rfl ?_
              refine jm_iload_n d_B_pair_106 rfl ?_
              refine cr_ald 3 70 k (e := k) d_B_pair_107 (by decide) rfl hc (show k < lu sz 6 0 (np + 1) 1 0 by omega) rfl rfl rfl rfl (by have := hc.B.1; omega) (by decide) (v := .ref (L2 1 k)) rfl ?_
              refine jm_dup d_B_pair_108 rfl ?_
              refine cr_get 9 k d_B_pair_109 f_B_93 hc (show k < lu sz 6 0 (np + 1) 1 0 by omega) rfl rfl rfl (v := .int (C 9 k)) (by show Value.int (mu (nwQ C np _ _) 5 0 _ 9 k) = _; rw [mu_row (by decide), nwQ_row (by decide) (by decide) (by decide)]) ?_
              refine jm_iconstL (v := 1) d_B_pair_112 (by decide) ?_
              refine jm_iload_n d_B_pair_113 rfl ?_
              refine jm_ishl d_B_pair_114 ?_
              refine jm_ior d_B_pair_115 ?_
              refine cr_put 9 k _ d_B_pair_116 f_B_93 hc hf (show k < lu sz 6 0 (np + 1) 1 0 by omega) rfl rfl rfl (by decide) (by decide) rfl rfl rfl (fun h hc hf => ?_)
              refine jm_aload_n d_B_pair_119 rfl ?_
              refine cr_get 78 0 d_B_pair_120 f_B_11 hc rfl rfl rfl rfl (v := .ref (L2 0 0)) rfl ?_
              refine jm_iload_n d_B_pair_123 rfl ?_
              refine cr_ald 3 70 l (e := l) d_B_pair_124 (by decide) rfl hc (show l < lu sz 6 0 (np + 1) 1 0 by omega) rfl rfl rfl rfl (by have := hc.B.1; omega) (by decide) (v := .ref (L2 1 l)) rfl ?_
              refine jm_dup d_B_pair_125 rfl ?_
              refine cr_get 9 l d_B_pair_126 f_B_93 hc (show l < lu sz 6 0 (np + 1) 1 0 by omega) rfl rfl rfl (v := .int (C 9 l)) (by show Value.int (mu (mu (nwQ C np _ _) 5 0 _) 9 k _ 9 l) = _; simp only [mu]; rw [if_neg (fun q => hkl q.2.symm), if_neg (fun q => absurd q.1 (by decide)), nwQ_row (by decide) (by decide) (by decide)]) ?_
              refine jm_iconstL (v := 1) d_B_pair_129 (by decide) ?_
              refine jm_iload_n d_B_pair_130 rfl ?_
              refine jm_ishl d_B_pair_131 ?_
              refine jm_ior d_B_pair_132 ?_
              refine cr_put 9 l _ d_B_pair_133 f_B_93 hc hf (show l < lu sz 6 0 (np + 1) 1 0 by omega) rfl rfl rfl (by decide) (by decide) rfl rfl rfl (fun h hc hf => ?_)
              refine jm_aload_n d_B_pair_136 rfl ?_
              refine cr_get 5 0 d_B_pair_137 f_B_74 hc rfl rfl rfl rfl (v := .int (nI (np + 1))) (by show Value.int (mu (mu (mu (nwQ C np _ _) 5 0 _) 9 k _) 9 l _ 5 0) = _; rw [mu_row (by decide), mu_row (by decide), mu_same]) ?_
              exact jm_iret d_B_pair_140 rfl ⟨_, _, _, _, Or.inr (Or.inr ⟨⟨hb5, hb13, hb18⟩, fun q => q.elim hb35 (fun q => q.elim hb44 (fun q => q hq)), hp12, rfl, rfl, k, l, hk, hl, hkl, rfl, rfl, rfl⟩), hc, hf⟩
            · refine cr_callp (r := ("BargainTree", jm_F0, 9)) (As := [_, _]) d_B_pair_50 l_B_77 iw_B_pairOf ew_B_pairOf rfl nv_B_pairOf rfl (hc.1 1 0 rfl).1 (Nat.le_of_ble_eq_true rfl) (by omega : 1 + 1 ≤ _) (k_B_pairOf (by omega) hp hs h12 a b) hc ?_
              rw [show pvC L (pfC (C 62) (C 63) a b np 0) = .ref (L 6 (pfC (C 62) (C 63) a b np 0).toNatClampNeg) from if_neg hq]
              refine jm_ifnull d_B_pair_53 ?_
              exact jm_throw (tx := "no such pair can be made") d_B_pair_56 d_B_pair_59 d_B_pair_60 d_B_pair_62 d_B_pair_65 x_1 (by decide +kernel) rfl (by omega) (by omega) (by simp; omega) (by decide) (Nat.le_of_ble_eq_true rfl) ⟨L, ρ, sz, C, Or.inr (Or.inl ⟨⟨hb5, hb13, hb18⟩, Or.inr (Or.inr hq), rfl, rfl, rfl, rfl⟩), hc, hf⟩
      · exact jm_throw (tx := "no such two agents") d_B_pair_21 d_B_pair_24 d_B_pair_25 d_B_pair_27 d_B_pair_30 x_0 (by decide +kernel) rfl (by omega) (by omega) (by simp; omega) (by decide) (Nat.le_of_ble_eq_true rfl) ⟨L, ρ, sz, C, Or.inl ⟨by first | exact fun q => hb5 q.1 | exact fun q => hb13 q.2.1 | exact fun q => hb18 q.2.2, rfl, rfl, rfl, rfl⟩, hc, hf⟩
end
