/-! agent, before and after start. Written by wip/whole/gen/p87z.py -/
section
variable {Γ : jm_G} {d x : Nat} {L sz : Nat → Nat → Nat} {C : mS} {h : jm_H} {ρ : Nat → Nat}
theorem k_B_agentZ {n : Nat} {z : Int32} (hd : 8 ≤ d) (hn : C 1 0 = nI n) (hs : sz 1 0 = n) (h8 : n ≤ 8) (h4 : ¬ C 60 0 = 0 → (∀ a, sz 4 a = 0) ∧ ∀ p, sz 5 p ≠ 1) : cM Γ m_B_agent d x [.ref x, .int z] L sz C 3 29 (fun oc L' sz' C' => (¬ (2 ≤ z ∧ z ≤ 4) ∧ oc = .inr 0 ∧ L' = L ∧ sz' = sz ∧ C' = C) ∨ ((2 ≤ z ∧ z ≤ 4) ∧ (C 60 0 = 0 ∨ C 1 0 = 8) ∧ oc = .inr 1 ∧ L' = L ∧ sz' = sz ∧ C' = C) ∨ ((2 ≤ z ∧ z ≤ 4) ∧ ¬ (C 60 0 = 0 ∨ C 1 0 = 8) ∧ n < 8 ∧ oc = .inl (some (.int (nI n))) ∧ sz' = lu sz 1 0 (n + 1) ∧ C' = mu (nwA C n z) 1 0 (nI (n + 1)))) := by
  intro h ρ hc
  have hf : xt ρ h ρ h := xt.rf
  refine jm_entry (by decide +kernel) (List.forall_mem_cons.mpr ⟨rfl, List.forall_mem_cons.mpr ⟨rfl, fun _ h => nomatch h⟩⟩) (Nat.le_of_ble_eq_true rfl) ?_
  show jm_W _ _ _ _ _ _ 0 [some (.ref x), some (.int z)] [] _
  refine jm_iload_n d_B_agent_0 rfl ?_
  refine jm_iconstL (v := 2) d_B_agent_1 (by decide) ?_
  refine jm_icmp_lt 10 d_B_agent_2 (by decide) (fun hb2 => ?_) (fun hb2 => ?_)
  · exact jm_throw (tx := "an agent has 2 to 4 values") d_B_agent_10 d_B_agent_13 d_B_agent_14 d_B_agent_16 d_B_agent_19 x_0 (by decide +kernel) rfl (by omega) (by omega) (by simp; omega) (by decide) (Nat.le_of_ble_eq_true rfl) ⟨L, ρ, sz, C, Or.inl ⟨by first | exact fun q => absurd q.1 (Int32.not_le.mpr hb2) | exact fun q => hb7 q.2, rfl, rfl, rfl, rfl⟩, hc, hf⟩
  · refine jm_iload_n d_B_agent_5 rfl ?_
    refine jm_iconstL (v := 4) d_B_agent_6 (by decide) ?_
    refine jm_icmp_le 20 d_B_agent_7 (by decide) (fun hb7 => ?_) (fun hb7 => ?_)
    · refine jm_aload_n d_B_agent_20 rfl ?_
      refine cr_get 60 0 d_B_agent_21 f_B_31 hc rfl rfl rfl rfl (v := .int (C 60 0)) rfl ?_
      first | refine jm_bz_eq 36 d_B_agent_24 (by decide) (fun hb24 => ?_) (fun hb24 => ?_) | refine jm_if_eq 36 d_B_agent_24 (by decide) (fun hb24 => ?_) (fun hb24 => ?_)
      · exact jm_throw (tx := "no more agents") d_B_agent_36 d_B_agent_39 d_B_agent_40 d_B_agent_42 d_B_agent_45 x_1 (by decide +kernel) rfl (by omega) (by omega) (by simp; omega) (by decide) (Nat.le_of_ble_eq_true rfl) ⟨L, ρ, sz, C, Or.inr (Or.inl ⟨⟨Int32.not_lt.mp hb2, hb7⟩, by first | exact Or.inl hb24 | exact Or.inr (Decidable.not_not.mp hb33), rfl, rfl, rfl, rfl⟩), hc, hf⟩
      · refine jm_aload_n d_B_agent_27 rfl ?_
        refine cr_get 1 0 d_B_agent_28 f_B_42 hc rfl rfl rfl rfl (v := .int (C 1 0)) rfl ?_
        refine jm_bipushL (v := 8) d_B_agent_31 (by decide) ?_
        refine jm_icmp_ne 46 d_B_agent_33 (by decide) (fun hb33 => ?_) (fun hb33 => ?_)
        · have hn8 : n < 8 := by
            rcases Nat.lt_or_ge n 8 with q | q
            · exact q
            · exact absurd (by rw [hn, show n = 8 by omega]; rfl) hb33
          have hn9 : cE Γ L 1 0 (C 1 0) = .int (nI n) := by show Value.int (C 1 0) = _; rw [hn]
          refine jm_aload_n d_B_agent_46 rfl ?_
          refine cr_get 78 0 d_B_agent_47 f_B_11 hc rfl rfl rfl rfl (v := .ref (L 0 0)) rfl ?_
          refine jm_aload_n d_B_agent_50 rfl ?_
          refine cr_get 1 0 d_B_agent_51 f_B_42 hc rfl rfl rfl rfl (v := .int (nI n)) hn9 ?_
          refine jm_newobj (ci := 1) (N := 18) (dv := fun j => defaultValue (jm_Y1 j)) d_B_agent_54 rfl c_B_9 n_A z_A jm_Y1 jm_yok1 (fun _ _ => rfl) (by omega) (by omega) (fun q hq => ?_)
          have hc1 := co_nw (kn := (1, 0)) (dv := fun j => defaultValue (jm_Y1 j)) hc hq 6
          obtain ⟨hf1, hq0⟩ := xt_nw (kn := (1, 0)) (dv := fun j => defaultValue (jm_Y1 j)) hf hq 6
          refine jm_dup d_B_agent_57 rfl ?_
          refine jm_aload_n d_B_agent_58 rfl ?_
          refine cr_get 1 0 d_B_agent_59 f_B_42 hc1 rfl rfl rfl rfl (v := .int (nI n)) hn9 ?_
          refine jm_iload_n d_B_agent_62 rfl ?_
          have kq : (jm_new h q (1, 0) (fun j => defaultValue (jm_Y1 j))).1 q = some (1, 0) := if_pos rfl
          refine jm_callI (As := [_, _]) d_B_agent_63 rfl rfl rfl l_B_51 iw_A_init nv_A_init rfl (Nat.le_of_ble_eq_true rfl) (by omega : 1 + 1 ≤ _) (by decide) (by decide) (k_A_init (a := nI n) (z := z) (by omega) kq) (fun v h' hq' => ?_) (fun X h' hq' => by cases hq'.1)
          obtain ⟨e0, q2, q3, hq2, hq3, h23, rfl⟩ := hq'
          cases e0
          obtain ⟨hc2, hf2, hq20, hq30, r1, r2, r3⟩ := co_ai (a := nI n) (z := z) hc1 hf1 rl_eq kq hq0 hq2 hq3 h23
          have n2 : q ≠ q2 := fun e => by rw [← e, kq] at hq2; cases hq2
          have n3 : q ≠ q3 := fun e => by rw [← e, kq] at hq3; cases hq3
          have hF := nw_F (Γ := Γ) (h := h) (n := n) (z := z) n2 n3 h23
          refine jm_aastore 3 d_B_agent_66 (by decide) hc2.2.1.1 (vp_in_nI (show n < 8 from hn8) (by decide)) hF.1 rfl rfl ?_
          rw [nI_clamp (show n < 2 ^ 31 by omega)]
          obtain ⟨hc3, hf3⟩ := co_ag hc2 hf2 hq0 hq20 hq30 r1 r2 r3 hF hs hn8 (h4 hb24).1 (h4 hb24).2
          have hn3 : cE Γ L 1 0 (nwA C n z 1 0) = .int (nI n) := by show Value.int (nwA C n z 1 0) = _; rw [nwA_o (by decide) (Or.inr rfl), hn]
          refine jm_aload_n d_B_agent_67 rfl ?_
          refine jm_dup d_B_agent_68 rfl ?_
          refine cr_get 1 0 d_B_agent_69 f_B_42 hc3 rfl rfl rfl rfl (v := .int (nI n)) hn3 ?_
          refine jm_iconstL (v := 1) d_B_agent_72 (by decide) ?_
          refine jm_iadd d_B_agent_73 ?_
          rw [nI_1]
          refine cr_put 1 0 _ d_B_agent_74 f_B_42 hc3 hf3 rfl rfl rfl rfl (by decide) (by decide) rfl rfl rfl (fun h4' hc4 hf4 => ?_)
          refine jm_aload_n d_B_agent_77 rfl ?_
          refine cr_get 1 0 d_B_agent_78 f_B_42 hc4 rfl rfl rfl rfl (v := .int (nI (n + 1))) (by show Value.int (mu (nwA C n z) 1 0 (nI (n + 1)) 1 0) = _; rw [mu_same]) ?_
          refine jm_iconstL (v := 1) d_B_agent_81 (by decide) ?_
          refine jm_isub d_B_agent_82 ?_
          rw [nI_pred]
          exact jm_iret d_B_agent_83 rfl ⟨_, _, _, _, Or.inr (Or.inr ⟨⟨Int32.not_lt.mp hb2, hb7⟩, fun q => q.elim hb24 hb33, hn8, rfl, rfl, rfl⟩), hc4, hf4⟩
        · exact jm_throw (tx := "no more agents") d_B_agent_36 d_B_agent_39 d_B_agent_40 d_B_agent_42 d_B_agent_45 x_1 (by decide +kernel) rfl (by omega) (by omega) (by simp; omega) (by decide) (Nat.le_of_ble_eq_true rfl) ⟨L, ρ, sz, C, Or.inr (Or.inl ⟨⟨Int32.not_lt.mp hb2, hb7⟩, by first | exact Or.inl hb24 | exact Or.inr (Decidable.not_not.mp hb33), rfl, rfl, rfl, rfl⟩), hc, hf⟩
    · exact jm_throw (tx := "an agent has 2 to 4 values") d_B_agent_10 d_B_agent_13 d_B_agent_14 d_B_agent_16 d_B_agent_19 x_0 (by decide +kernel) rfl (by omega) (by omega) (by simp; omega) (by decide) (Nat.le_of_ble_eq_true rfl) ⟨L, ρ, sz, C, Or.inl ⟨by first | exact fun q => absurd q.1 (Int32.not_le.mpr hb2) | exact fun q => hb7 q.2, rfl, rfl, rfl, rfl⟩, hc, hf⟩
end
theorem k_B_agentY {Γ : jm_G} {x : Nat} {L sz : Nat → Nat → Nat} {S C : mS} {n np nl T : Nat} {z : Int32} (hI : INV S C n np nl T sz) : cM Γ m_B_agent 8 x [.ref x, .int z] L sz C 3 29 (fun oc L' sz' C' => (¬ (2 ≤ z ∧ z ≤ 4) ∧ oc = .inr 0 ∧ L' = L ∧ sz' = sz ∧ C' = C) ∨ ((2 ≤ z ∧ z ≤ 4) ∧ (C 60 0 = 0 ∨ C 1 0 = 8) ∧ oc = .inr 1 ∧ L' = L ∧ sz' = sz ∧ C' = C) ∨ ((2 ≤ z ∧ z ≤ 4) ∧ ¬ (C 60 0 = 0 ∨ C 1 0 = 8) ∧ n < 8 ∧ oc = .inl (some (.int (nI n))) ∧ sz' = lu sz 1 0 (n + 1) ∧ C' = mu (nwA C n z) 1 0 (nI (n + 1)))) :=
  k_B_agentZ (Γ := Γ) (d := 8) (x := x) (L := L) (sz := sz) (C := C) (n := n) (z := z) (Nat.le_refl _) (inv_sc hI).2.2.2.2.2.2.2.1 (inv_sc hI).2.2.2.2.2.2.2.2.2.2.2.1 (inv_sc hI).2.1 (fun q => (inv_pre hI (Decidable.byContradiction (fun z => q ((s2_iff hI).mpr z)))).2.2.2.2.2)
