/-! THE CLASS: rows that read and write its numbers. Written by wip/whole/gen/p51.py -/
section
variable {Γ : jm_G} {μ : jm_Mt} {d rc rs : Nat} {Q : jm_O → jm_H → Prop} {pc : Nat} {ls : List (Option Value)} {st : List Value} {h h0 : jm_H} {x : Nat} {L : Nat → Nat → Nat} {ρ ρ0 : Nat → Nat} {sz : Nat → Nat → Nat} {C : mS}
theorem cr_get (r i : Nat) {idx ci j : Nat} {fin : Bool} {ty : FieldType} {v : Value} (hd : decode μ.2.1 pc = .ok (.getfield idx, 3)) (hf : jm_FL μ.1.cls idx ci j fin ty) (hc : co Γ h x L ρ sz C) (hl : cV sz r i) (hT : cT r = ci) (hJ : cJ r i = j) (hK : cK r = (ci, 0)) (hv : cE Γ L r i (C r i) = v) (k : jm_W Γ μ d rc rs Q (pc + 3) ls (v :: st) h) : jm_W Γ μ d rc rs Q pc ls (.ref (cA x L r i) :: st) h := by
  obtain ⟨q1, q2, q3⟩ := hc.1 r i hl
  rw [hK] at q1
  refine jm_getf hd hf q1 ?_
  rw [hT, hJ] at q3
  rw [q3, hv]
  exact k
theorem cr_getG (r i : Nat) {idx ci j : Nat} {ty : FieldType} {v : Value} (hd : decode μ.2.1 pc = .ok (.getfield idx, 3)) (hf : jm_FG μ.1.cls idx ci j ty) (hc : co Γ h x L ρ sz C) (hl : cV sz r i) (hT : cT r = ci) (hJ : cJ r i = j) (hK : cK r = (ci, 0)) (hv : cE Γ L r i (C r i) = v) (k : jm_W Γ μ d rc rs Q (pc + 3) ls (v :: st) h) : jm_W Γ μ d rc rs Q pc ls (.ref (cA x L r i) :: st) h := by
  obtain ⟨q1, q2, q3⟩ := hc.1 r i hl
  rw [hK] at q1
  refine jm_getG hd hf q1 ?_
  rw [hT, hJ] at q3
  rw [q3, hv]
  exact k
/-- a number row: it may be written -/
abbrev cN (r : Nat) : Prop := r < 55 ∨ r = 60 ∨ r = 64 ∨ r = 65
theorem cN_j {r i : Nat} (h : cV sz r i) (hn : cN r) (hn2 : r ≠ 35 ∧ r ≠ 36 ∧ r ≠ 37 ∧ r ≠ 38) : (cT r = 1 → cJ r i ≠ 14 ∧ cJ r i ≠ 16) ∧ (cT r = 3 → cJ r i ≠ 2) := by
  unfold cV at h
  split at h <;> simp [cT, cJ]
theorem co_wr' {r i : Nat} {y : Int32} {v : Value} (hc : co Γ h x L ρ sz C) (hf : xt ρ0 h0 ρ h) (hl : cV sz r i) (hn : cN r) (hn2 : r ≠ 35 ∧ r ≠ 36 ∧ r ≠ 37 ∧ r ≠ 38) (hv : cE Γ L r i y = v) :
    co Γ (jm_set h (cT r) (cJ r i) (cA x L r i) v) x L ρ sz (mu C r i y) ∧ xt ρ0 h0 ρ (jm_set h (cT r) (cJ r i) (cA x L r i) v) := by
  obtain ⟨j1, j2⟩ := cN_j hl hn hn2
  exact co_wr hc hf hl hv j1 j2 (by omega) (by omega) (by omega) (by omega) (by omega) (by omega) (by omega) (by omega) (by omega) (by omega) (by omega) (by omega)
theorem cr_put (r i : Nat) (y : Int32) {idx ci j : Nat} {ty : FieldType} {v : Value} (hd : decode μ.2.1 pc = .ok (.putfield idx, 3)) (hf9 : jm_FL μ.1.cls idx ci j false ty) (hc : co Γ h x L ρ sz C) (hf : xt ρ0 h0 ρ h) (hl : cV sz r i) (hT : cT r = ci) (hJ : cJ r i = j) (hK : cK r = (ci, 0)) (hn : cN r) (hn2 : r ≠ 35 ∧ r ≠ 36 ∧ r ≠ 37 ∧ r ≠ 38) (hv : cE Γ L r i y = v) (hnar : narrow ty v = v) (hfit : fits ty v = true)
    (k : ∀ h', co Γ h' x L ρ sz (mu C r i y) → xt ρ0 h0 ρ h' → jm_W Γ μ d rc rs Q (pc + 3) ls st h') : jm_W Γ μ d rc rs Q pc ls (v :: .ref (cA x L r i) :: st) h := by
  obtain ⟨q1, q2, q3⟩ := hc.1 r i hl
  obtain ⟨w1, w2⟩ := co_wr' hc hf hl hn hn2 hv
  rw [hK] at q1
  refine jm_putf hd hf9 q1 hnar hfit ?_
  rw [hT, hJ] at w1 w2
  exact k _ w1 w2
/-- an element that is a reference -/
theorem cr_ald (kd r i : Nat) {n e : Nat} {ix : Int32} {v : Value} (hd : decode μ.2.1 pc = .ok (.aaload, 1)) (hkd : kd < 7) (hty : (jm_ty kd).isReference = true) (hc : co Γ h x L ρ sz C) (hl : cV sz r i) (hT : cT r = 100) (hJ : cJ r i = e) (hK : cK r = (100 + kd, n)) (hix : ix = nI e) (hn : e < n) (hn31 : n < 2 ^ 31) (hv : cE Γ L r i (C r i) = v) (k : jm_W Γ μ d rc rs Q (pc + 1) ls (v :: st) h) : jm_W Γ μ d rc rs Q pc ls (.int ix :: .ref (cA x L r i) :: st) h := by
  obtain ⟨q1, q2, q3⟩ := hc.1 r i hl
  rw [hK] at q1
  subst hix
  refine jm_aaload kd hd hkd hty q1 (vp_in_nI hn hn31) ?_
  rw [nI_clamp (by omega)]
  rw [hT, hJ] at q3
  rw [q3, hv]
  exact k
theorem cr_ild (r i : Nat) {n e : Nat} {ix : Int32} {v : Value} (hd : decode μ.2.1 pc = .ok (.iaload, 1)) (hc : co Γ h x L ρ sz C) (hl : cV sz r i) (hT : cT r = 100) (hJ : cJ r i = e) (hK : cK r = (100, n)) (hix : ix = nI e) (hn : e < n) (hn31 : n < 2 ^ 31) (hv : cE Γ L r i (C r i) = v) (k : jm_W Γ μ d rc rs Q (pc + 1) ls (v :: st) h) : jm_W Γ μ d rc rs Q pc ls (.int ix :: .ref (cA x L r i) :: st) h := by
  obtain ⟨q1, q2, q3⟩ := hc.1 r i hl
  rw [hK] at q1
  subst hix
  refine jm_iaload hd q1 (vp_in_nI hn hn31) ?_
  rw [nI_clamp (by omega)]
  rw [hT, hJ] at q3
  rw [q3, hv]
  exact k
theorem cr_ist (r i : Nat) {n e : Nat} {ix y : Int32} (hd : decode μ.2.1 pc = .ok (.iastore, 1)) (hc : co Γ h x L ρ sz C) (hf : xt ρ0 h0 ρ h) (hl : cV sz r i) (hT : cT r = 100) (hJ : cJ r i = e) (hK : cK r = (100, n)) (hN : cN r) (hn2 : r ≠ 35 ∧ r ≠ 36 ∧ r ≠ 37 ∧ r ≠ 38) (hix : ix = nI e) (hn : e < n) (hn31 : n < 2 ^ 31) (hv : cE Γ L r i y = .int y)
    (k : ∀ h', co Γ h' x L ρ sz (mu C r i y) → xt ρ0 h0 ρ h' → jm_W Γ μ d rc rs Q (pc + 1) ls st h') : jm_W Γ μ d rc rs Q pc ls (.int y :: .int ix :: .ref (cA x L r i) :: st) h := by
  obtain ⟨q1, q2, q3⟩ := hc.1 r i hl
  obtain ⟨w1, w2⟩ := co_wr' hc hf hl hN hn2 hv
  rw [hK] at q1
  subst hix
  refine jm_iastore hd q1 (vp_in_nI hn hn31) ?_
  rw [nI_clamp (by omega)]
  rw [hT, hJ] at w1 w2
  exact k _ w1 w2
/-- a method of the class: from C it answers v, and C' is then -/
def cM (Γ : jm_G) (μ : jm_Mt) (d x : Nat) (av : List Value) (L sz : Nat → Nat → Nat) (C : mS) (mc ms : Nat) (Qm : jm_O → (Nat → Nat → Nat) → (Nat → Nat → Nat) → mS → Prop) : Prop :=
  ∀ h ρ, co Γ h x L ρ sz C → jm_M Γ μ d av h mc ms (fun oc h' => ∃ L' ρ' sz' C', Qm oc L' sz' C' ∧ co Γ h' x L' ρ' sz' C' ∧ xt ρ h ρ' h')
/-- .. that only answers -/
def cA0 (Γ : jm_G) (μ : jm_Mt) (d x : Nat) (av : List Value) (L sz : Nat → Nat → Nat) (C : mS) (v : Option Value) : Prop := ∀ h ρ, co Γ h x L ρ sz C → jm_A Γ μ d av h v
end
section
variable {Γ : jm_G} {μ ν : jm_Mt} {d d' rc rs mc ms : Nat} {Q : jm_O → jm_H → Prop} {pc : Nat} {ls : List (Option Value)} {st As rest : List Value} {h h0 : jm_H} {x : Nat} {L : Nat → Nat → Nat} {ρ ρ0 : Nat → Nat} {sz : Nat → Nat → Nat} {C : mS}
theorem cr_call {idx b ci nb : Nat} {r : vw_C} {Qm : jm_O → (Nat → Nat → Nat) → (Nat → Nat → Nat) → mS → Prop} (hd : decode μ.2.1 pc = .ok (.invokevirtual idx, 3)) (hl9 : Cond.methodLink μ.1.cls idx ν.1 ∈ jm_ws) (hi9 : Cond.instanceMethod ν.1 ∈ jm_ws) (hse9 : Cond.selects r.1 ν.1 ν.1 ∈ jm_ws) (hcl : jm_cl[ci]? = some r) (hN : jm_NV ν As.length) (hst : st = As.reverse ++ .ref b :: rest) (hb9 : h.1 b = some (ci, nb)) (hrest : rest.length ≤ 4)
    (hd' : d' + 1 ≤ d) (h1 : mc ≤ rc) (h2 : ms ≤ rs) (hM : cM Γ ν d' x (.ref b :: As) L sz C mc ms Qm) (hc : co Γ h x L ρ sz C) (hf : xt ρ0 h0 ρ h) (hno : ∀ X L' sz' C', ¬ Qm (.inr X) L' sz' C')
    (k : ∀ v L' ρ' sz' C' h', Qm (.inl v) L' sz' C' → co Γ h' x L' ρ' sz' C' → xt ρ0 h0 ρ' h' → xt ρ h ρ' h' → jm_W Γ μ d (rc - mc) (rs - ms) Q (pc + 3) ls (v.toList ++ rest) h') : jm_W Γ μ d rc rs Q pc ls st h :=
  jm_callV (r := r) hd hl9 hi9 hse9 hcl hN hst hb9 hrest hd' h1 h2 (hM h ρ hc) (fun v h' hq => by
    obtain ⟨L', ρ', sz', C', q1, q2, q3⟩ := hq
    exact k v L' ρ' sz' C' h' q1 q2 (hf.tr q3) q3) (fun X h' hq => by
    obtain ⟨L', ρ', sz', C', q1, -⟩ := hq
    exact absurd q1 (hno X L' sz' C'))
theorem cr_callp {idx b ci nb : Nat} {r : vw_C} {v : Option Value} (hd : decode μ.2.1 pc = .ok (.invokevirtual idx, 3)) (hl9 : Cond.methodLink μ.1.cls idx ν.1 ∈ jm_ws) (hi9 : Cond.instanceMethod ν.1 ∈ jm_ws) (hse9 : Cond.selects r.1 ν.1 ν.1 ∈ jm_ws) (hcl : jm_cl[ci]? = some r) (hN : jm_NV ν As.length) (hst : st = As.reverse ++ .ref b :: rest) (hb9 : h.1 b = some (ci, nb)) (hrest : rest.length ≤ 4)
    (hd' : d' + 1 ≤ d) (hM : cA0 Γ ν d' x (.ref b :: As) L sz C v) (hc : co Γ h x L ρ sz C) (k : jm_W Γ μ d rc rs Q (pc + 3) ls (v.toList ++ rest) h) : jm_W Γ μ d rc rs Q pc ls st h :=
  jm_callVp (r := r) hd hl9 hi9 hse9 hcl hN hst hb9 hrest hd' (hM h ρ hc) k
end
