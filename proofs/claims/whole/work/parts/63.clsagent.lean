/-! THE CLASS: agent, own, cost. Written by wip/whole/gen/p63.py -/
section
variable {Γ : jm_G} {h h0 : jm_H} {x : Nat} {L : Nat → Nat → Nat} {ρ ρ0 : Nat → Nat} {sz : Nat → Nat → Nat} {C : mS}
theorem co_ai {q q2 q3 : Nat} {kn : Nat × Nat} {a z : Int32} (hc : co Γ h x L ρ sz C) (hf : xt ρ0 h0 ρ h) (h6 : ρ q = 6) (hq : h.1 q = some kn) (hq0 : h0.1 q = none) (hq2 : h.1 q2 = none) (hq3 : h.1 q3 = none) (h23 : q2 ≠ q3) :
    co Γ (jm_set (jm_set (jm_set (jm_set (jm_set (jm_set (jm_new (jm_set (jm_new h q2 (100, 4) (fun _ => .int 0)) 1 2 q (.ref q2)) q3 (106, 7) (fun _ => .null)) 1 3 q (.ref q3)) 1 7 q (.ref (jm_eA Γ 0))) 1 10 q (.int (-1))) 1 11 q (.int (-1))) 1 0 q (.int a)) 1 1 q (.int z)) x L (rl (rl ρ q2 6) q3 6) sz C ∧
    xt ρ0 h0 (rl (rl ρ q2 6) q3 6) (jm_set (jm_set (jm_set (jm_set (jm_set (jm_set (jm_new (jm_set (jm_new h q2 (100, 4) (fun _ => .int 0)) 1 2 q (.ref q2)) q3 (106, 7) (fun _ => .null)) 1 3 q (.ref q3)) 1 7 q (.ref (jm_eA Γ 0))) 1 10 q (.int (-1))) 1 11 q (.int (-1))) 1 0 q (.int a)) 1 1 q (.int z)) ∧ h0.1 q2 = none ∧ h0.1 q3 = none ∧ rl (rl ρ q2 6) q3 6 q = 6 ∧ rl (rl ρ q2 6) q3 6 q2 = 6 ∧ rl (rl ρ q2 6) q3 6 q3 = 6 := by
  have n2 : q ≠ q2 := fun e => by rw [e, hq2] at hq; cases hq
  have n3 : q ≠ q3 := fun e => by rw [e, hq3] at hq; cases hq
  obtain ⟨x1, x2⟩ := xt_nw (kn := (100, 4)) (dv := fun _ => .int 0) hf hq2 6
  have c1 := co_nw (kn := (100, 4)) (dv := fun _ => .int 0) hc hq2 6
  have r1 : rl ρ q2 6 q = 6 := (rl_ne n2).trans h6
  have c2 := co_wp (t := 1) (i := 2) (v := .ref q2) c1 r1
  have y2 := xt_wp (t := 1) (i := 2) (v := .ref q2) x1 hq0
  have hq3' : (jm_set (jm_new h q2 (100, 4) (fun _ => .int 0)) 1 2 q (.ref q2)).1 q3 = none := by
    show (if q3 = q2 then _ else h.1 q3) = none
    rw [if_neg (Ne.symm h23)]
    exact hq3
  obtain ⟨x3, x4⟩ := xt_nw (kn := (106, 7)) (dv := fun _ => .null) y2 hq3' 6
  have c3 := co_nw (kn := (106, 7)) (dv := fun _ => .null) c2 hq3' 6
  have r2 : rl (rl ρ q2 6) q3 6 q = 6 := (rl_ne n3).trans r1
  exact ⟨co_wp (co_wp (co_wp (co_wp (co_wp (co_wp c3 r2) r2) r2) r2) r2) r2, xt_wp (xt_wp (xt_wp (xt_wp (xt_wp (xt_wp x3 hq0) hq0) hq0) hq0) hq0) hq0, x2, x4, r2, (rl_ne h23).trans rl_eq, rl_eq⟩
theorem nw_F {q q2 q3 n : Nat} {z : Int32} (n2 : q ≠ q2) (n3 : q ≠ q3) (h23 : q2 ≠ q3) :
    nwF Γ (jm_set (jm_set (jm_set (jm_set (jm_set (jm_set (jm_new (jm_set (jm_new (jm_new h q (1, 0) (fun j => defaultValue (jm_Y1 j))) q2 (100, 4) (fun _ => .int 0)) 1 2 q (.ref q2)) q3 (106, 7) (fun _ => .null)) 1 3 q (.ref q3)) 1 7 q (.ref (jm_eA Γ 0))) 1 10 q (.int (-1))) 1 11 q (.int (-1))) 1 0 q (.int (nI n))) 1 1 q (.int z)) q q2 q3 n z := by
  have n32 := Ne.symm h23
  have n2' := Ne.symm n2
  have n3' := Ne.symm n3
  exact ⟨by simp [jm_set, jm_new, n2, n3], by simp [jm_set, jm_new, h23], by simp [jm_set, jm_new], by simp [jm_set], by simp [jm_set], by simp [jm_set, jm_new, n2, n3], by simp [jm_set, jm_new, n2, n3], by simp [jm_set, jm_new, n2, n3]; first | done | rfl, by simp [jm_set, jm_new, n2, n3]; first | done | rfl, by simp [jm_set, jm_new, n2, n3]; first | done | rfl, by simp [jm_set, jm_new, n2, n3], by simp [jm_set, jm_new, n2, n3]; first | done | rfl, by simp [jm_set, jm_new, n2, n3]; first | done | rfl, by simp [jm_set, jm_new, n2, n3], by simp [jm_set, jm_new, n2, n3], by simp [jm_set, jm_new, n2, n3]; first | done | rfl, by simp [jm_set, jm_new, n2, n3]; first | done | rfl, by simp [jm_set, jm_new, n2, n3]; first | done | rfl, by simp [jm_set, jm_new, n2, n3]; first | done | rfl, by simp [jm_set, jm_new, n2, n3]; first | done | rfl, by simp [jm_set, jm_new, n2, n3]; first | done | rfl, fun i hi => by simp [jm_set, jm_new, h23, n32]⟩
end
section
variable {Γ : jm_G} {d x : Nat} {L sz : Nat → Nat → Nat} {C : mS} {h : jm_H} {ρ : Nat → Nat}
theorem k_B_agent {n : Nat} {z : Int32} (hd : 8 ≤ d) (hn : C 1 0 = nI n) (hs : sz 1 0 = n) (h8 : n ≤ 8) (h4 : ∀ a, sz 4 a = 0) (h5 : ∀ p, sz 5 p ≠ 1) : cM Γ m_B_agent d x [.ref x, .int z] L sz C 3 29 (fun oc L' sz' C' => (¬ (2 ≤ z ∧ z ≤ 4) ∧ oc = .inr 0 ∧ L' = L ∧ sz' = sz ∧ C' = C) ∨ ((2 ≤ z ∧ z ≤ 4) ∧ (C 60 0 = 0 ∨ C 1 0 = 8) ∧ oc = .inr 1 ∧ L' = L ∧ sz' = sz ∧ C' = C) ∨ ((2 ≤ z ∧ z ≤ 4) ∧ ¬ (C 60 0 = 0 ∨ C 1 0 = 8) ∧ n < 8 ∧ oc = .inl (some (.int (nI n))) ∧ sz' = lu sz 1 0 (n + 1) ∧ C' = mu (nwA C n z) 1 0 (nI (n + 1)))) := by
  intro h ρ hc
  have hf : xt ρ h ρ h := xt.rf
  refine jm_entry (by decide +kernel) (List.forall_mem_cons.mpr ⟨rfl, List.forall_mem_cons.mpr ⟨rfl, fun _ h => nomatch h⟩⟩) (Nat.le_of_ble_eq_true rfl) ?_
  show jm_W _ _ _ _ _ _ 0 [some (.ref x), some (.int z)] [] _
  refine jm_iload_n d_B_agent_0 rfl ?_
  refine jm_iconstL (v := 2) d_B_agent_1 (by decide) ?_
  refine jm_icmp_lt 10 d_B_agent_2 (by decide) (fun hb2 => ?_) (fun hb2 => ?_)
  · exact jm_throw (tx := "an agent has 2 to 4 values") d_B_agent_10 d_B_agent_13 d_B_agent_14 d_B_agent_16 d_B_agent_19 x_0 (by decide +kernel) rfl (by omega) (by omega) (by simp; omega) (by decide) (Nat.le_of_ble_eq_true rfl) ⟨L, ρ, sz, C, Or.inl ⟨by first | exact fun q => absurd q.1 (Int32.not_le.mpr hb2) | exact fun q => hb7 q.2, rfl, rfl, rfl, rfl⟩, hc, hf⟩
  · refine jm_iload_n d_B_agent_5 rfl ?_
    refine jm_iconstL (v := 4) d_B_agent_6 (by decide) ?_
    refine jm_icmp_le 20 d_B_agent_7 (by decide) (fun hb7 => ?_) (fun hb7 => ?_)
    · refine jm_aload_n d_B_agent_20 rfl ?_
      refine cr_get 60 0 d_B_agent_21 f_B_31 hc rfl rfl rfl rfl (v := .int (C 60 0)) rfl ?_
      first | refine jm_bz_eq 36 d_B_agent_24 (by decide) (fun hb24 => ?_) (fun hb24 => ?_) | refine jm_if_eq 36 d_B_agent_24 (by decide) (fun hb24 => ?_) (fun hb24 => ?_)
      · exact jm_throw (tx := "no more agents") d_B_agent_36 d_B_agent_39 d_B_agent_40 d_B_agent_42 d_B_agent_45 x_1 (by decide +kernel) rfl (by omega) (by omega) (by simp; omega) (by decide) (Nat.le_of_ble_eq_true rfl) ⟨L, ρ, sz, C, Or.inr (Or.inl ⟨⟨Int32.not_lt.mp hb2, hb7⟩, by first | exact Or.inl hb24 | exact Or.inr (Decidable.not_not.mp hb33), rfl, rfl, rfl, rfl⟩), hc, hf⟩
      · refine jm_aload_n d_B_agent_27 rfl ?_
        refine cr_get 1 0 d_B_agent_28 f_B_42 hc rfl rfl rfl rfl (v := .int (C 1 0)) rfl ?_
        refine jm_bipushL (v := 8) d_B_agent_31 (by decide) ?_
        refine jm_icmp_ne 46 d_B_agent_33 (by decide) (fun hb33 => ?_) (fun hb33 => ?_)
        · have hn8 : n < 8 := by
            rcases Nat.lt_or_ge n 8 with q | q
            · exact q
            · exact absurd (by rw [hn, show n = 8 by omega]; rfl) hb33
          have hn9 : cE Γ L 1 0 (C 1 0) = .int (nI n) := by show Value.int (C 1 0) = _; rw [hn]
          refine jm_aload_n d_B_agent_46 rfl ?_
          refine cr_get 78 0 d_B_agent_47 f_B_11 hc rfl rfl rfl rfl (v := .ref (L 0 0)) rfl ?_
          refine jm_aload_n d_B_agent_50 rfl ?_
          refine cr_get 1 0 d_B_agent_51 f_B_42 hc rfl rfl rfl rfl (v := .int (nI n)) hn9 ?_
          refine jm_newobj (ci := 1) (N := 18) (dv := fun j => defaultValue (jm_Y1 j)) d_B_agent_54 rfl c_B_9 n_A z_A jm_Y1 jm_yok1 (fun _ _ => rfl) (by omega) (by omega) (fun q hq => ?_)
          have hc1 := co_nw (kn := (1, 0)) (dv := fun j => defaultValue (jm_Y1 j)) hc hq 6
          obtain ⟨hf1, hq0⟩ := xt_nw (kn := (1, 0)) (dv := fun j => defaultValue (jm_Y1 j)) hf hq 6
          refine jm_dup d_B_agent_57 rfl ?_
          refine jm_aload_n d_B_agent_58 rfl ?_
          refine cr_get 1 0 d_B_agent_59 f_B_42 hc1 rfl rfl rfl rfl (v := .int (nI n)) hn9 ?_
          refine jm_iload_n d_B_agent_62 rfl ?_
          have kq : (jm_new h q (1, 0) (fun j => defaultValue (jm_Y1 j))).1 q = some (1, 0) := if_pos rfl
          refine jm_callI (As := [_, _]) d_B_agent_63 rfl rfl rfl l_B_51 iw_A_init nv_A_init rfl (Nat.le_of_ble_eq_true rfl) (by omega : 1 + 1 ≤ _) (by decide) (by decide) (k_A_init (a := nI n) (z := z) (by omega) kq) (fun v h' hq' => ?_) (fun X h' hq' => by cases hq'.1)
          obtain ⟨e0, q2, q3, hq2, hq3, h23, rfl⟩ := hq'
          cases e0
          obtain ⟨hc2, hf2, hq20, hq30, r1, r2, r3⟩ := co_ai (a := nI n) (z := z) hc1 hf1 rl_eq kq hq0 hq2 hq3 h23
          have n2 : q ≠ q2 := fun e => by rw [← e, kq] at hq2; cases hq2
          have n3 : q ≠ q3 := fun e => by rw [← e, kq] at hq3; cases hq3
          have hF := nw_F (Γ := Γ) (h := h) (n := n) (z := z) n2 n3 h23
          refine jm_aastore 3 d_B_agent_66 (by decide) hc2.2.1.1 (vp_in_nI (show n < 8 from hn8) (by decide)) hF.1 rfl rfl ?_
          rw [nI_clamp (show n < 2 ^ 31 by omega)]
          obtain ⟨hc3, hf3⟩ := co_ag hc2 hf2 hq0 hq20 hq30 r1 r2 r3 hF hs hn8 h4 h5
          have hn3 : cE Γ L 1 0 (nwA C n z 1 0) = .int (nI n) := by show Value.int (nwA C n z 1 0) = _; rw [nwA_o (by decide) (Or.inr rfl), hn]
          refine jm_aload_n d_B_agent_67 rfl ?_
          refine jm_dup d_B_agent_68 rfl ?_
          refine cr_get 1 0 d_B_agent_69 f_B_42 hc3 rfl rfl rfl rfl (v := .int (nI n)) hn3 ?_
          refine jm_iconstL (v := 1) d_B_agent_72 (by decide) ?_
          refine jm_iadd d_B_agent_73 ?_
          rw [nI_1]
          refine cr_put 1 0 _ d_B_agent_74 f_B_42 hc3 hf3 rfl rfl rfl rfl (by decide) (by decide) rfl rfl rfl (fun h4' hc4 hf4 => ?_)
          refine jm_aload_n d_B_agent_77 rfl ?_
          refine cr_get 1 0 d_B_agent_78 f_B_42 hc4 rfl rfl rfl rfl (v := .int (nI (n + 1))) (by show Value.int (mu (nwA C n z) 1 0 (nI (n + 1)) 1 0) = _; rw [mu_same]) ?_
          refine jm_iconstL (v := 1) d_B_agent_81 (by decide) ?_
          refine jm_isub d_B_agent_82 ?_
          rw [nI_pred]
          exact jm_iret d_B_agent_83 rfl ⟨_, _, _, _, Or.inr (Or.inr ⟨⟨Int32.not_lt.mp hb2, hb7⟩, fun q => q.elim hb24 hb33, hn8, rfl, rfl, rfl⟩), hc4, hf4⟩
        · exact jm_throw (tx := "no more agents") d_B_agent_36 d_B_agent_39 d_B_agent_40 d_B_agent_42 d_B_agent_45 x_1 (by decide +kernel) rfl (by omega) (by omega) (by simp; omega) (by decide) (Nat.le_of_ble_eq_true rfl) ⟨L, ρ, sz, C, Or.inr (Or.inl ⟨⟨Int32.not_lt.mp hb2, hb7⟩, by first | exact Or.inl hb24 | exact Or.inr (Decidable.not_not.mp hb33), rfl, rfl, rfl, rfl⟩), hc, hf⟩
    · exact jm_throw (tx := "an agent has 2 to 4 values") d_B_agent_10 d_B_agent_13 d_B_agent_14 d_B_agent_16 d_B_agent_19 x_0 (by decide +kernel) rfl (by omega) (by omega) (by simp; omega) (by decide) (Nat.le_of_ble_eq_true rfl) ⟨L, ρ, sz, C, Or.inl ⟨by first | exact fun q => absurd q.1 (Int32.not_le.mpr hb2) | exact fun q => hb7 q.2, rfl, rfl, rfl, rfl⟩, hc, hf⟩
end
