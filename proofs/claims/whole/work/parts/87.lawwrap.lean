/-! THE LAW'S OWN METHODS. Written by wip/whole/gen/p87.py -/
section
variable {Γ : jm_G} {d x o mc ms : Nat} {L sz : Nat → Nat → Nat} {C : mS} {h : jm_H} {ρ : Nat → Nat} {Qm : jm_O → (Nat → Nat → Nat) → (Nat → Nat → Nat) → mS → Prop}
/-- as xt, but for the cell o -/
def xo (o : Nat) (ρ0 : Nat → Nat) (h0 : jm_H) (ρ : Nat → Nat) (h : jm_H) : Prop := ∀ p, h0.1 p ≠ none → h.1 p = h0.1 p ∧ ρ p = ρ0 p ∧ (p ≠ o → ρ0 p = 0 ∨ ρ0 p = 6 → ∀ t i, h.2 t i p = h0.2 t i p)
theorem xo_of {ρ' : Nat → Nat} {h' : jm_H} (hx : xt ρ h ρ' h') : xo o ρ h ρ' h' := fun p hp => ⟨(hx p hp).1, (hx p hp).2.1, fun _ => (hx p hp).2.2⟩
theorem xo_set {ρ' : Nat → Nat} {h' : jm_H} {t i : Nat} {v : Value} (hx : xt ρ h ρ' h') : xo o ρ h ρ' (jm_set h' t i o v) := fun p hp => by
  obtain ⟨h1, h2, h3⟩ := hx p hp
  refine ⟨h1, h2, fun ne z t' i' => ?_⟩
  show (if t' = t ∧ i' = i ∧ p = o then v else h'.2 t' i' p) = _
  rw [if_neg (fun q => ne q.2.2)]
  exact h3 z t' i'
/-- what one of them does -/
def WQ (Γ : jm_G) (kc : jm_O → Int32) (x o : Nat) (h : jm_H) (ρ : Nat → Nat) (Qm : jm_O → (Nat → Nat → Nat) → (Nat → Nat → Nat) → mS → Prop) (oc : jm_O) (h' : jm_H) : Prop :=
  ∃ r L' ρ' sz' C', Qm r L' sz' C' ∧ oc = .inl (some (.int (kc r))) ∧ co Γ h' x L' ρ' sz' C' ∧ xo o ρ h ρ' h' ∧ ∀ y, r = .inl (some (.int y)) → h'.2 100 0 o = .long y.toInt64
theorem xn_inj : ∀ a b, a < 3 → b < 3 → jm_xn a = jm_xn b → a = b := fun a b ha hb e => by
  have h1 : a = 0 ∨ a = 1 ∨ a = 2 := by omega
  have h2 : b = 0 ∨ b = 1 ∨ b = 2 := by omega
  rcases h1 with rfl | rfl | rfl <;> rcases h2 with rfl | rfl | rfl <;> first | rfl | exact absurd e (by decide)
theorem w_agent {z0 : Int32} (hK : cM Γ m_B_agent d x [.ref x, .int z0] L sz C mc ms Qm) (hV : ∀ v L' sz' C', Qm (.inl v) L' sz' C' → ∃ y, v = some (.int y)) (hX : ∀ X L' sz' C', Qm (.inr X) L' sz' C' → X = 0 ∨ X = 1) (hc : co Γ h x L ρ sz C) (ho : h.1 o = some (102, 1)) (h6 : ρ o = 6) : jm_M Γ m_W_agent (d + 1) [.ref x, .int z0, .ref o] h mc ms (WQ Γ kc2 x o h ρ Qm) := by
  refine jm_entry (by decide +kernel) (List.forall_mem_cons.mpr ⟨rfl, List.forall_mem_cons.mpr ⟨rfl, List.forall_mem_cons.mpr ⟨rfl, fun _ h => nomatch h⟩⟩⟩) (Nat.le_of_ble_eq_true rfl) ?_
  show jm_W _ _ _ _ _ _ 0 [some (.ref x), some (.int z0), some (.ref o), none] [] _
  refine jm_aload_n d_W_agent_0 rfl ?_
  refine jm_iconstL (v := nI 0) d_W_agent_1 (by decide) ?_
  refine jm_aload_n d_W_agent_2 rfl ?_
  refine jm_iload_n d_W_agent_3 rfl ?_
  refine jm_callV (r := ("BargainTree", jm_F0, 9)) (As := [_]) d_W_agent_4 l_W_7 iw_B_agent ew_B_agent rfl nv_B_agent rfl (hc.1 1 0 rfl).1 (Nat.le_of_ble_eq_true rfl) (Nat.le_refl _) (Nat.le_refl _) (Nat.le_refl _) (hK h ρ hc) (fun v h1 hq => ?_) (fun X h1 hq => ?_)
  · obtain ⟨L', ρ', sz', C', q1, q2, q3⟩ := hq
    obtain ⟨y, rfl⟩ := hV _ _ _ _ q1
    have g := q3 o (by rw [ho]; exact fun e => by cases e)
    refine jm_i2l d_W_agent_7 ?_
    refine jm_lastore (n := 1) d_W_agent_8 (g.1.trans ho) (vp_in_nI (by decide) (by decide)) ?_
    refine jm_goto 18 d_W_agent_9 (by decide) ?_
    refine jm_iconstL (v := 0) d_W_agent_18 (by decide) ?_
    exact jm_iret d_W_agent_19 rfl ⟨.inl (some (.int y)), L', ρ', sz', C', q1, rfl, co_wp q2 (g.2.1.trans h6), xo_set q3, fun y' e => by cases e; exact if_pos ⟨rfl, rfl, rfl⟩⟩
  · obtain ⟨L', ρ', sz', C', q1, q2, q3⟩ := hq
    have hcls : ∀ q ∈ m_W_agent.2.2.2.2, q.1 ≤ 4 ∧ 4 < q.2.1 ∧ q.2.2.2 ≠ 0 ∧ Cond.classLink m_W_agent.1.cls q.2.2.2 (jm_xn (jm_cat q.2.2.2)) ∈ jm_ws ∧ jm_cat q.2.2.2 < 3 := List.forall_mem_cons.mpr ⟨⟨by decide, by decide, by decide, c_W_13, by decide⟩, List.forall_mem_cons.mpr ⟨⟨by decide, by decide, by decide, c_W_15, by decide⟩, fun _ h => nomatch h⟩⟩
    rcases hX _ _ _ _ q1 with rfl | rfl
    · refine jm_Tcatch (hp := 12) (by decide) hcls xn_inj (by decide) (fun a => ?_)
      refine jm_astore_n d_W_agent_12 (Nat.le_of_ble_eq_true rfl) ?_
      refine jm_iconstL (v := 1) d_W_agent_13 (by decide) ?_
      exact jm_iret d_W_agent_14 rfl ⟨.inr 0, L', ρ', sz', C', q1, rfl, q2, xo_of q3, fun y e => by cases e⟩
    · refine jm_Tcatch (hp := 15) (by decide) hcls xn_inj (by decide) (fun a => ?_)
      refine jm_astore_n d_W_agent_15 (Nat.le_of_ble_eq_true rfl) ?_
      refine jm_iconstL (v := 2) d_W_agent_16 (by decide) ?_
      exact jm_iret d_W_agent_17 rfl ⟨.inr 1, L', ρ', sz', C', q1, rfl, q2, xo_of q3, fun y e => by cases e⟩
theorem w_own {z0 z1 z2 : Int32} (hK : cM Γ m_B_own d x [.ref x, .int z0, .int z1, .int z2] L sz C mc ms Qm) (hV : ∀ v L' sz' C', Qm (.inl v) L' sz' C' → v = none) (hX : ∀ X L' sz' C', Qm (.inr X) L' sz' C' → X = 0 ∨ X = 1) (hc : co Γ h x L ρ sz C) : jm_M Γ m_W_own (d + 1) [.ref x, .int z0, .int z1, .int z2] h mc ms (WQ Γ kc2 x o h ρ Qm) := by
  refine jm_entry (by decide +kernel) (List.forall_mem_cons.mpr ⟨rfl, List.forall_mem_cons.mpr ⟨rfl, List.forall_mem_cons.mpr ⟨rfl, List.forall_mem_cons.mpr ⟨rfl, fun _ h => nomatch h⟩⟩⟩⟩) (Nat.le_of_ble_eq_true rfl) ?_
  show jm_W _ _ _ _ _ _ 0 [some (.ref x), some (.int z0), some (.int z1), some (.int z2), none] [] _
  refine jm_aload_n d_W_own_0 rfl ?_
  refine jm_iload_n d_W_own_1 rfl ?_
  refine jm_iload_n d_W_own_2 rfl ?_
  refine jm_iload_n d_W_own_3 rfl ?_
  refine jm_callV (r := ("BargainTree", jm_F0, 9)) (As := [_, _, _]) d_W_own_4 l_W_17 iw_B_own ew_B_own rfl nv_B_own rfl (hc.1 1 0 rfl).1 (Nat.le_of_ble_eq_true rfl) (Nat.le_refl _) (Nat.le_refl _) (Nat.le_refl _) (hK h ρ hc) (fun v h1 hq => ?_) (fun X h1 hq => ?_)
  · obtain ⟨L', ρ', sz', C', q1, q2, q3⟩ := hq
    have e0 := hV _ _ _ _ q1
    subst e0
    refine jm_goto 18 d_W_own_7 (by decide) ?_
    refine jm_iconstL (v := 0) d_W_own_18 (by decide) ?_
    exact jm_iret d_W_own_19 rfl ⟨.inl none, L', ρ', sz', C', q1, rfl, q2, xo_of q3, fun y e => by cases e⟩
  · obtain ⟨L', ρ', sz', C', q1, q2, q3⟩ := hq
    have hcls : ∀ q ∈ m_W_own.2.2.2.2, q.1 ≤ 4 ∧ 4 < q.2.1 ∧ q.2.2.2 ≠ 0 ∧ Cond.classLink m_W_own.1.cls q.2.2.2 (jm_xn (jm_cat q.2.2.2)) ∈ jm_ws ∧ jm_cat q.2.2.2 < 3 := List.forall_mem_cons.mpr ⟨⟨by decide, by decide, by decide, c_W_13, by decide⟩, List.forall_mem_cons.mpr ⟨⟨by decide, by decide, by decide, c_W_15, by decide⟩, fun _ h => nomatch h⟩⟩
    rcases hX _ _ _ _ q1 with rfl | rfl
    · refine jm_Tcatch (hp := 10) (by decide) hcls xn_inj (by decide) (fun a => ?_)
      refine jm_astore d_W_own_10 (Nat.le_of_ble_eq_true rfl) ?_
      refine jm_iconstL (v := 1) d_W_own_12 (by decide) ?_
      exact jm_iret d_W_own_13 rfl ⟨.inr 0, L', ρ', sz', C', q1, rfl, q2, xo_of q3, fun y e => by cases e⟩
    · refine jm_Tcatch (hp := 14) (by decide) hcls xn_inj (by decide) (fun a => ?_)
      refine jm_astore d_W_own_14 (Nat.le_of_ble_eq_true rfl) ?_
      refine jm_iconstL (v := 2) d_W_own_16 (by decide) ?_
      exact jm_iret d_W_own_17 rfl ⟨.inr 1, L', ρ', sz', C', q1, rfl, q2, xo_of q3, fun y e => by cases e⟩
theorem w_pair {z0 z1 : Int32} (hK : cM Γ m_B_pair d x [.ref x, .int z0, .int z1] L sz C mc ms Qm) (hV : ∀ v L' sz' C', Qm (.inl v) L' sz' C' → ∃ y, v = some (.int y)) (hX : ∀ X L' sz' C', Qm (.inr X) L' sz' C' → X = 0 ∨ X = 1) (hc : co Γ h x L ρ sz C) (ho : h.1 o = some (102, 1)) (h6 : ρ o = 6) : jm_M Γ m_W_pair (d + 1) [.ref x, .int z0, .int z1, .ref o] h mc ms (WQ Γ kc2 x o h ρ Qm) := by
  refine jm_entry (by decide +kernel) (List.forall_mem_cons.mpr ⟨rfl, List.forall_mem_cons.mpr ⟨rfl, List.forall_mem_cons.mpr ⟨rfl, List.forall_mem_cons.mpr ⟨rfl, fun _ h => nomatch h⟩⟩⟩⟩) (Nat.le_of_ble_eq_true rfl) ?_
  show jm_W _ _ _ _ _ _ 0 [some (.ref x), some (.int z0), some (.int z1), some (.ref o), none] [] _
  refine jm_aload_n d_W_pair_0 rfl ?_
  refine jm_iconstL (v := nI 0) d_W_pair_1 (by decide) ?_
  refine jm_aload_n d_W_pair_2 rfl ?_
  refine jm_iload_n d_W_pair_3 rfl ?_
  refine jm_iload_n d_W_pair_4 rfl ?_
  refine jm_callV (r := ("BargainTree", jm_F0, 9)) (As := [_, _]) d_W_pair_5 l_W_21 iw_B_pair ew_B_pair rfl nv_B_pair rfl (hc.1 1 0 rfl).1 (Nat.le_of_ble_eq_true rfl) (Nat.le_refl _) (Nat.le_refl _) (Nat.le_refl _) (hK h ρ hc) (fun v h1 hq => ?_) (fun X h1 hq => ?_)
  · obtain ⟨L', ρ', sz', C', q1, q2, q3⟩ := hq
    obtain ⟨y, rfl⟩ := hV _ _ _ _ q1
    have g := q3 o (by rw [ho]; exact fun e => by cases e)
    refine jm_i2l d_W_pair_8 ?_
    refine jm_lastore (n := 1) d_W_pair_9 (g.1.trans ho) (vp_in_nI (by decide) (by decide)) ?_
    refine jm_goto 21 d_W_pair_10 (by decide) ?_
    refine jm_iconstL (v := 0) d_W_pair_21 (by decide) ?_
    exact jm_iret d_W_pair_22 rfl ⟨.inl (some (.int y)), L', ρ', sz', C', q1, rfl, co_wp q2 (g.2.1.trans h6), xo_set q3, fun y' e => by cases e; exact if_pos ⟨rfl, rfl, rfl⟩⟩
  · obtain ⟨L', ρ', sz', C', q1, q2, q3⟩ := hq
    have hcls : ∀ q ∈ m_W_pair.2.2.2.2, q.1 ≤ 5 ∧ 5 < q.2.1 ∧ q.2.2.2 ≠ 0 ∧ Cond.classLink m_W_pair.1.cls q.2.2.2 (jm_xn (jm_cat q.2.2.2)) ∈ jm_ws ∧ jm_cat q.2.2.2 < 3 := List.forall_mem_cons.mpr ⟨⟨by decide, by decide, by decide, c_W_13, by decide⟩, List.forall_mem_cons.mpr ⟨⟨by decide, by decide, by decide, c_W_15, by decide⟩, fun _ h => nomatch h⟩⟩
    rcases hX _ _ _ _ q1 with rfl | rfl
    · refine jm_Tcatch (hp := 13) (by decide) hcls xn_inj (by decide) (fun a => ?_)
      refine jm_astore d_W_pair_13 (Nat.le_of_ble_eq_true rfl) ?_
      refine jm_iconstL (v := 1) d_W_pair_15 (by decide) ?_
      exact jm_iret d_W_pair_16 rfl ⟨.inr 0, L', ρ', sz', C', q1, rfl, q2, xo_of q3, fun y e => by cases e⟩
    · refine jm_Tcatch (hp := 17) (by decide) hcls xn_inj (by decide) (fun a => ?_)
      refine jm_astore d_W_pair_17 (Nat.le_of_ble_eq_true rfl) ?_
      refine jm_iconstL (v := 2) d_W_pair_19 (by decide) ?_
      exact jm_iret d_W_pair_20 rfl ⟨.inr 1, L', ρ', sz', C', q1, rfl, q2, xo_of q3, fun y e => by cases e⟩
theorem w_cost {z0 z1 z2 z3 z4 : Int32} (hK : cM Γ m_B_cost d x [.ref x, .int z0, .int z1, .int z2, .int z3, .int z4] L sz C mc ms Qm) (hV : ∀ v L' sz' C', Qm (.inl v) L' sz' C' → v = none) (hX : ∀ X L' sz' C', Qm (.inr X) L' sz' C' → X = 0 ∨ X = 1) (hc : co Γ h x L ρ sz C) : jm_M Γ m_W_cost (d + 1) [.ref x, .int z0, .int z1, .int z2, .int z3, .int z4] h mc ms (WQ Γ kc2 x o h ρ Qm) := by
  refine jm_entry (by decide +kernel) (List.forall_mem_cons.mpr ⟨rfl, List.forall_mem_cons.mpr ⟨rfl, List.forall_mem_cons.mpr ⟨rfl, List.forall_mem_cons.mpr ⟨rfl, List.forall_mem_cons.mpr ⟨rfl, List.forall_mem_cons.mpr ⟨rfl, fun _ h => nomatch h⟩⟩⟩⟩⟩⟩) (Nat.le_of_ble_eq_true rfl) ?_
  show jm_W _ _ _ _ _ _ 0 [some (.ref x), some (.int z0), some (.int z1), some (.int z2), some (.int z3), some (.int z4), none] [] _
  refine jm_aload_n d_W_cost_0 rfl ?_
  refine jm_iload_n d_W_cost_1 rfl ?_
  refine jm_iload_n d_W_cost_2 rfl ?_
  refine jm_iload_n d_W_cost_3 rfl ?_
  refine jm_iload d_W_cost_4 rfl ?_
  refine jm_iload d_W_cost_6 rfl ?_
  refine jm_callV (r := ("BargainTree", jm_F0, 9)) (As := [_, _, _, _, _]) d_W_cost_8 l_W_25 iw_B_cost ew_B_cost rfl nv_B_cost rfl (hc.1 1 0 rfl).1 (Nat.le_of_ble_eq_true rfl) (Nat.le_refl _) (Nat.le_refl _) (Nat.le_refl _) (hK h ρ hc) (fun v h1 hq => ?_) (fun X h1 hq => ?_)
  · obtain ⟨L', ρ', sz', C', q1, q2, q3⟩ := hq
    have e0 := hV _ _ _ _ q1
    subst e0
    refine jm_goto 22 d_W_cost_11 (by decide) ?_
    refine jm_iconstL (v := 0) d_W_cost_22 (by decide) ?_
    exact jm_iret d_W_cost_23 rfl ⟨.inl none, L', ρ', sz', C', q1, rfl, q2, xo_of q3, fun y e => by cases e⟩
  · obtain ⟨L', ρ', sz', C', q1, q2, q3⟩ := hq
    have hcls : ∀ q ∈ m_W_cost.2.2.2.2, q.1 ≤ 8 ∧ 8 < q.2.1 ∧ q.2.2.2 ≠ 0 ∧ Cond.classLink m_W_cost.1.cls q.2.2.2 (jm_xn (jm_cat q.2.2.2)) ∈ jm_ws ∧ jm_cat q.2.2.2 < 3 := List.forall_mem_cons.mpr ⟨⟨by decide, by decide, by decide, c_W_13, by decide⟩, List.forall_mem_cons.mpr ⟨⟨by decide, by decide, by decide, c_W_15, by decide⟩, fun _ h => nomatch h⟩⟩
    rcases hX _ _ _ _ q1 with rfl | rfl
    · refine jm_Tcatch (hp := 14) (by decide) hcls xn_inj (by decide) (fun a => ?_)
      refine jm_astore d_W_cost_14 (Nat.le_of_ble_eq_true rfl) ?_
      refine jm_iconstL (v := 1) d_W_cost_16 (by decide) ?_
      exact jm_iret d_W_cost_17 rfl ⟨.inr 0, L', ρ', sz', C', q1, rfl, q2, xo_of q3, fun y e => by cases e⟩
    · refine jm_Tcatch (hp := 18) (by decide) hcls xn_inj (by decide) (fun a => ?_)
      refine jm_astore d_W_cost_18 (Nat.le_of_ble_eq_true rfl) ?_
      refine jm_iconstL (v := 2) d_W_cost_20 (by decide) ?_
      exact jm_iret d_W_cost_21 rfl ⟨.inr 1, L', ρ', sz', C', q1, rfl, q2, xo_of q3, fun y e => by cases e⟩
theorem w_start (hK : cM Γ m_B_start d x [.ref x] L sz C mc ms Qm) (hV : ∀ v L' sz' C', Qm (.inl v) L' sz' C' → ∃ y, v = some (.int y)) (hX : ∀ X L' sz' C', Qm (.inr X) L' sz' C' → X = 1) (hc : co Γ h x L ρ sz C) (ho : h.1 o = some (102, 1)) (h6 : ρ o = 6) : jm_M Γ m_W_start (d + 1) [.ref x, .ref o] h mc ms (WQ Γ kcS x o h ρ Qm) := by
  refine jm_entry (by decide +kernel) (List.forall_mem_cons.mpr ⟨rfl, List.forall_mem_cons.mpr ⟨rfl, fun _ h => nomatch h⟩⟩) (Nat.le_of_ble_eq_true rfl) ?_
  show jm_W _ _ _ _ _ _ 0 [some (.ref x), some (.ref o), none] [] _
  refine jm_aload_n d_W_start_0 rfl ?_
  refine jm_iconstL (v := nI 0) d_W_start_1 (by decide) ?_
  refine jm_aload_n d_W_start_2 rfl ?_
  refine jm_callV (r := ("BargainTree", jm_F0, 9)) (As := []) d_W_start_3 l_W_29 iw_B_start ew_B_start rfl nv_B_start rfl (hc.1 1 0 rfl).1 (Nat.le_of_ble_eq_true rfl) (Nat.le_refl _) (Nat.le_refl _) (Nat.le_refl _) (hK h ρ hc) (fun v h1 hq => ?_) (fun X h1 hq => ?_)
  · obtain ⟨L', ρ', sz', C', q1, q2, q3⟩ := hq
    obtain ⟨y, rfl⟩ := hV _ _ _ _ q1
    have g := q3 o (by rw [ho]; exact fun e => by cases e)
    refine jm_i2l d_W_start_6 ?_
    refine jm_lastore (n := 1) d_W_start_7 (g.1.trans ho) (vp_in_nI (by decide) (by decide)) ?_
    refine jm_goto 14 d_W_start_8 (by decide) ?_
    refine jm_iconstL (v := 0) d_W_start_14 (by decide) ?_
    exact jm_iret d_W_start_15 rfl ⟨.inl (some (.int y)), L', ρ', sz', C', q1, rfl, co_wp q2 (g.2.1.trans h6), xo_set q3, fun y' e => by cases e; exact if_pos ⟨rfl, rfl, rfl⟩⟩
  · obtain ⟨L', ρ', sz', C', q1, q2, q3⟩ := hq
    have hcls : ∀ q ∈ m_W_start.2.2.2.2, q.1 ≤ 3 ∧ 3 < q.2.1 ∧ q.2.2.2 ≠ 0 ∧ Cond.classLink m_W_start.1.cls q.2.2.2 (jm_xn (jm_cat q.2.2.2)) ∈ jm_ws ∧ jm_cat q.2.2.2 < 3 := List.forall_mem_cons.mpr ⟨⟨by decide, by decide, by decide, c_W_15, by decide⟩, fun _ h => nomatch h⟩
    rcases hX _ _ _ _ q1 with rfl
    · refine jm_Tcatch (hp := 11) (by decide) hcls xn_inj (by decide) (fun a => ?_)
      refine jm_astore_n d_W_start_11 (Nat.le_of_ble_eq_true rfl) ?_
      refine jm_iconstL (v := 1) d_W_start_12 (by decide) ?_
      exact jm_iret d_W_start_13 rfl ⟨.inr 1, L', ρ', sz', C', q1, rfl, q2, xo_of q3, fun y e => by cases e⟩
theorem w_letter {z0 z1 : Int32} (hK : cM Γ m_B_letter d x [.ref x, .int z0, .int z1] L sz C mc ms Qm) (hV : ∀ v L' sz' C', Qm (.inl v) L' sz' C' → ∃ y, v = some (.int y)) (hX : ∀ X L' sz' C', Qm (.inr X) L' sz' C' → X = 0 ∨ X = 1 ∨ X = 2) (hc : co Γ h x L ρ sz C) (ho : h.1 o = some (102, 1)) (h6 : ρ o = 6) : jm_M Γ m_W_letter (d + 1) [.ref x, .int z0, .int z1, .ref o] h mc ms (WQ Γ kc3 x o h ρ Qm) := by
  refine jm_entry (by decide +kernel) (List.forall_mem_cons.mpr ⟨rfl, List.forall_mem_cons.mpr ⟨rfl, List.forall_mem_cons.mpr ⟨rfl, List.forall_mem_cons.mpr ⟨rfl, fun _ h => nomatch h⟩⟩⟩⟩) (Nat.le_of_ble_eq_true rfl) ?_
  show jm_W _ _ _ _ _ _ 0 [some (.ref x), some (.int z0), some (.int z1), some (.ref o), none] [] _
  refine jm_aload_n d_W_letter_0 rfl ?_
  refine jm_iconstL (v := nI 0) d_W_letter_1 (by decide) ?_
  refine jm_aload_n d_W_letter_2 rfl ?_
  refine jm_iload_n d_W_letter_3 rfl ?_
  refine jm_iload_n d_W_letter_4 rfl ?_
  refine jm_callV (r := ("BargainTree", jm_F0, 9)) (As := [_, _]) d_W_letter_5 l_W_33 iw_B_letter ew_B_letter rfl nv_B_letter rfl (hc.1 1 0 rfl).1 (Nat.le_of_ble_eq_true rfl) (Nat.le_refl _) (Nat.le_refl _) (Nat.le_refl _) (hK h ρ hc) (fun v h1 hq => ?_) (fun X h1 hq => ?_)
  · obtain ⟨L', ρ', sz', C', q1, q2, q3⟩ := hq
    obtain ⟨y, rfl⟩ := hV _ _ _ _ q1
    have g := q3 o (by rw [ho]; exact fun e => by cases e)
    refine jm_i2l d_W_letter_8 ?_
    refine jm_lastore (n := 1) d_W_letter_9 (g.1.trans ho) (vp_in_nI (by decide) (by decide)) ?_
    refine jm_goto 25 d_W_letter_10 (by decide) ?_
    refine jm_iconstL (v := 0) d_W_letter_25 (by decide) ?_
    exact jm_iret d_W_letter_26 rfl ⟨.inl (some (.int y)), L', ρ', sz', C', q1, rfl, co_wp q2 (g.2.1.trans h6), xo_set q3, fun y' e => by cases e; exact if_pos ⟨rfl, rfl, rfl⟩⟩
  · obtain ⟨L', ρ', sz', C', q1, q2, q3⟩ := hq
    have hcls : ∀ q ∈ m_W_letter.2.2.2.2, q.1 ≤ 5 ∧ 5 < q.2.1 ∧ q.2.2.2 ≠ 0 ∧ Cond.classLink m_W_letter.1.cls q.2.2.2 (jm_xn (jm_cat q.2.2.2)) ∈ jm_ws ∧ jm_cat q.2.2.2 < 3 := List.forall_mem_cons.mpr ⟨⟨by decide, by decide, by decide, c_W_13, by decide⟩, List.forall_mem_cons.mpr ⟨⟨by decide, by decide, by decide, c_W_36, by decide⟩, List.forall_mem_cons.mpr ⟨⟨by decide, by decide, by decide, c_W_15, by decide⟩, fun _ h => nomatch h⟩⟩⟩
    rcases hX _ _ _ _ q1 with rfl | rfl | rfl
    · refine jm_Tcatch (hp := 13) (by decide) hcls xn_inj (by decide) (fun a => ?_)
      refine jm_astore d_W_letter_13 (Nat.le_of_ble_eq_true rfl) ?_
      refine jm_iconstL (v := 1) d_W_letter_15 (by decide) ?_
      exact jm_iret d_W_letter_16 rfl ⟨.inr 0, L', ρ', sz', C', q1, rfl, q2, xo_of q3, fun y e => by cases e⟩
    · refine jm_Tcatch (hp := 21) (by decide) hcls xn_inj (by decide) (fun a => ?_)
      refine jm_astore d_W_letter_21 (Nat.le_of_ble_eq_true rfl) ?_
      refine jm_iconstL (v := 3) d_W_letter_23 (by decide) ?_
      exact jm_iret d_W_letter_24 rfl ⟨.inr 1, L', ρ', sz', C', q1, rfl, q2, xo_of q3, fun y e => by cases e⟩
    · refine jm_Tcatch (hp := 17) (by decide) hcls xn_inj (by decide) (fun a => ?_)
      refine jm_astore d_W_letter_17 (Nat.le_of_ble_eq_true rfl) ?_
      refine jm_iconstL (v := 2) d_W_letter_19 (by decide) ?_
      exact jm_iret d_W_letter_20 rfl ⟨.inr 2, L', ρ', sz', C', q1, rfl, q2, xo_of q3, fun y e => by cases e⟩
theorem w_again {z0 : Int32} (hK : cM Γ m_B_again d x [.ref x, .int z0] L sz C mc ms Qm) (hV : ∀ v L' sz' C', Qm (.inl v) L' sz' C' → ∃ y, v = some (.int y)) (hX : ∀ X L' sz' C', Qm (.inr X) L' sz' C' → X = 0 ∨ X = 1) (hc : co Γ h x L ρ sz C) (ho : h.1 o = some (102, 1)) (h6 : ρ o = 6) : jm_M Γ m_W_again (d + 1) [.ref x, .int z0, .ref o] h mc ms (WQ Γ kc2 x o h ρ Qm) := by
  refine jm_entry (by decide +kernel) (List.forall_mem_cons.mpr ⟨rfl, List.forall_mem_cons.mpr ⟨rfl, List.forall_mem_cons.mpr ⟨rfl, fun _ h => nomatch h⟩⟩⟩) (Nat.le_of_ble_eq_true rfl) ?_
  show jm_W _ _ _ _ _ _ 0 [some (.ref x), some (.int z0), some (.ref o), none] [] _
  refine jm_aload_n d_W_again_0 rfl ?_
  refine jm_iconstL (v := nI 0) d_W_again_1 (by decide) ?_
  refine jm_aload_n d_W_again_2 rfl ?_
  refine jm_iload_n d_W_again_3 rfl ?_
  refine jm_callV (r := ("BargainTree", jm_F0, 9)) (As := [_]) d_W_again_4 l_W_38 iw_B_again ew_B_again rfl nv_B_again rfl (hc.1 1 0 rfl).1 (Nat.le_of_ble_eq_true rfl) (Nat.le_refl _) (Nat.le_refl _) (Nat.le_refl _) (hK h ρ hc) (fun v h1 hq => ?_) (fun X h1 hq => ?_)
  · obtain ⟨L', ρ', sz', C', q1, q2, q3⟩ := hq
    obtain ⟨y, rfl⟩ := hV _ _ _ _ q1
    have g := q3 o (by rw [ho]; exact fun e => by cases e)
    refine jm_i2l d_W_again_7 ?_
    refine jm_lastore (n := 1) d_W_again_8 (g.1.trans ho) (vp_in_nI (by decide) (by decide)) ?_
    refine jm_goto 18 d_W_again_9 (by decide) ?_
    refine jm_iconstL (v := 0) d_W_again_18 (by decide) ?_
    exact jm_iret d_W_again_19 rfl ⟨.inl (some (.int y)), L', ρ', sz', C', q1, rfl, co_wp q2 (g.2.1.trans h6), xo_set q3, fun y' e => by cases e; exact if_pos ⟨rfl, rfl, rfl⟩⟩
  · obtain ⟨L', ρ', sz', C', q1, q2, q3⟩ := hq
    have hcls : ∀ q ∈ m_W_again.2.2.2.2, q.1 ≤ 4 ∧ 4 < q.2.1 ∧ q.2.2.2 ≠ 0 ∧ Cond.classLink m_W_again.1.cls q.2.2.2 (jm_xn (jm_cat q.2.2.2)) ∈ jm_ws ∧ jm_cat q.2.2.2 < 3 := List.forall_mem_cons.mpr ⟨⟨by decide, by decide, by decide, c_W_13, by decide⟩, List.forall_mem_cons.mpr ⟨⟨by decide, by decide, by decide, c_W_15, by decide⟩, fun _ h => nomatch h⟩⟩
    rcases hX _ _ _ _ q1 with rfl | rfl
    · refine jm_Tcatch (hp := 12) (by decide) hcls xn_inj (by decide) (fun a => ?_)
      refine jm_astore_n d_W_again_12 (Nat.le_of_ble_eq_true rfl) ?_
      refine jm_iconstL (v := 1) d_W_again_13 (by decide) ?_
      exact jm_iret d_W_again_14 rfl ⟨.inr 0, L', ρ', sz', C', q1, rfl, q2, xo_of q3, fun y e => by cases e⟩
    · refine jm_Tcatch (hp := 15) (by decide) hcls xn_inj (by decide) (fun a => ?_)
      refine jm_astore_n d_W_again_15 (Nat.le_of_ble_eq_true rfl) ?_
      refine jm_iconstL (v := 2) d_W_again_16 (by decide) ?_
      exact jm_iret d_W_again_17 rfl ⟨.inr 1, L', ρ', sz', C', q1, rfl, q2, xo_of q3, fun y e => by cases e⟩
theorem w_change {z0 z1 z2 z3 z4 : Int32} (hK : cM Γ m_B_change d x [.ref x, .int z0, .int z1, .int z2, .int z3, .int z4] L sz C mc ms Qm) (hV : ∀ v L' sz' C', Qm (.inl v) L' sz' C' → ∃ y, v = some (.int y)) (hX : ∀ X L' sz' C', Qm (.inr X) L' sz' C' → X = 0 ∨ X = 1) (hc : co Γ h x L ρ sz C) (ho : h.1 o = some (102, 1)) (h6 : ρ o = 6) : jm_M Γ m_W_change (d + 1) [.ref x, .int z0, .int z1, .int z2, .int z3, .int z4, .ref o] h mc ms (WQ Γ kc2 x o h ρ Qm) := by
  refine jm_entry (by decide +kernel) (List.forall_mem_cons.mpr ⟨rfl, List.forall_mem_cons.mpr ⟨rfl, List.forall_mem_cons.mpr ⟨rfl, List.forall_mem_cons.mpr ⟨rfl, List.forall_mem_cons.mpr ⟨rfl, List.forall_mem_cons.mpr ⟨rfl, List.forall_mem_cons.mpr ⟨rfl, fun _ h => nomatch h⟩⟩⟩⟩⟩⟩⟩) (Nat.le_of_ble_eq_true rfl) ?_
  show jm_W _ _ _ _ _ _ 0 [some (.ref x), some (.int z0), some (.int z1), some (.int z2), some (.int z3), some (.int z4), some (.ref o), none] [] _
  refine jm_aload d_W_change_0 rfl ?_
  refine jm_iconstL (v := nI 0) d_W_change_2 (by decide) ?_
  refine jm_aload_n d_W_change_3 rfl ?_
  refine jm_iload_n d_W_change_4 rfl ?_
  refine jm_iload_n d_W_change_5 rfl ?_
  refine jm_iload_n d_W_change_6 rfl ?_
  refine jm_iload d_W_change_7 rfl ?_
  refine jm_iload d_W_change_9 rfl ?_
  refine jm_callV (r := ("BargainTree", jm_F0, 9)) (As := [_, _, _, _, _]) d_W_change_11 l_W_41 iw_B_change ew_B_change rfl nv_B_change rfl (hc.1 1 0 rfl).1 (Nat.le_of_ble_eq_true rfl) (Nat.le_refl _) (Nat.le_refl _) (Nat.le_refl _) (hK h ρ hc) (fun v h1 hq => ?_) (fun X h1 hq => ?_)
  · obtain ⟨L', ρ', sz', C', q1, q2, q3⟩ := hq
    obtain ⟨y, rfl⟩ := hV _ _ _ _ q1
    have g := q3 o (by rw [ho]; exact fun e => by cases e)
    refine jm_i2l d_W_change_14 ?_
    refine jm_lastore (n := 1) d_W_change_15 (g.1.trans ho) (vp_in_nI (by decide) (by decide)) ?_
    refine jm_goto 27 d_W_change_16 (by decide) ?_
    refine jm_iconstL (v := 0) d_W_change_27 (by decide) ?_
    exact jm_iret d_W_change_28 rfl ⟨.inl (some (.int y)), L', ρ', sz', C', q1, rfl, co_wp q2 (g.2.1.trans h6), xo_set q3, fun y' e => by cases e; exact if_pos ⟨rfl, rfl, rfl⟩⟩
  · obtain ⟨L', ρ', sz', C', q1, q2, q3⟩ := hq
    have hcls : ∀ q ∈ m_W_change.2.2.2.2, q.1 ≤ 11 ∧ 11 < q.2.1 ∧ q.2.2.2 ≠ 0 ∧ Cond.classLink m_W_change.1.cls q.2.2.2 (jm_xn (jm_cat q.2.2.2)) ∈ jm_ws ∧ jm_cat q.2.2.2 < 3 := List.forall_mem_cons.mpr ⟨⟨by decide, by decide, by decide, c_W_13, by decide⟩, List.forall_mem_cons.mpr ⟨⟨by decide, by decide, by decide, c_W_15, by decide⟩, fun _ h => nomatch h⟩⟩
    rcases hX _ _ _ _ q1 with rfl | rfl
    · refine jm_Tcatch (hp := 19) (by decide) hcls xn_inj (by decide) (fun a => ?_)
      refine jm_astore d_W_change_19 (Nat.le_of_ble_eq_true rfl) ?_
      refine jm_iconstL (v := 1) d_W_change_21 (by decide) ?_
      exact jm_iret d_W_change_22 rfl ⟨.inr 0, L', ρ', sz', C', q1, rfl, q2, xo_of q3, fun y e => by cases e⟩
    · refine jm_Tcatch (hp := 23) (by decide) hcls xn_inj (by decide) (fun a => ?_)
      refine jm_astore d_W_change_23 (Nat.le_of_ble_eq_true rfl) ?_
      refine jm_iconstL (v := 2) d_W_change_25 (by decide) ?_
      exact jm_iret d_W_change_26 rfl ⟨.inr 1, L', ρ', sz', C', q1, rfl, q2, xo_of q3, fun y e => by cases e⟩
end
