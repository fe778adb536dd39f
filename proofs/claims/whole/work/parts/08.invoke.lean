/-! CALL ROWS, and 'throw new X("..")' -/
section
variable {Γ : jm_G} {μ ν : jm_Mt} {d d' rc rs mc ms : Nat} {Q Q' : jm_O → jm_H → Prop} {pc : Nat} {ls : List (Option Value)} {st As rest : List Value} {h : jm_H}
/-- what is asked of the callee's name, code and number of parameters -/
def jm_NV (ν : jm_Mt) (n : Nat) : Prop := Cond.initialized ν.1.cls ∈ jm_ws ∧ jm_cw ν ∈ jm_ws ∧ (ν.1.cls ≠ "java/lang/invoke/MethodHandle" ∧ ν.1.cls ≠ "java/lang/invoke/VarHandle") ∧ (parseMethodDescriptor ν.1.desc).map (fun q => q.parameters.length) = some n ∧ ν.2.2.1 ≤ 17
theorem jm_NVn {n : Nat} {sig : MethodDescriptor} (hN : (parseMethodDescriptor ν.1.desc).map (fun q => q.parameters.length) = some n) (hs : parseMethodDescriptor ν.1.desc = some sig) : sig.parameters.length = n := by
  rw [hs] at hN
  exact Option.some.inj hN
theorem jm_callS {idx : Nat} (hd : decode μ.2.1 pc = .ok (.invokestatic idx, 3)) (hl9 : Cond.methodLink μ.1.cls idx ν.1 ∈ jm_ws) (hs9 : Cond.static ν.1 ∈ jm_ws) (hN : jm_NV ν As.length) (hst : st = As.reverse ++ rest) (hrest : rest.length ≤ 4)
    (hd' : d' + 1 ≤ d) (h1 : mc ≤ rc) (h2 : ms ≤ rs) (hM : jm_M Γ ν d' As h mc ms Q')
    (hret : ∀ v h', Q' (.inl v) h' → jm_W Γ μ d (rc - mc) (rs - ms) Q (pc + 3) ls (v.toList ++ rest) h') (hthr : ∀ X h', Q' (.inr X) h' → jm_T Γ μ d (rc - mc) (rs - ms) Q pc ls X h') : jm_W Γ μ d rc rs Q pc ls st h := by
  intro p e R s m args below meth c H locs cells slots arr E hR hlo hc hs hl hn
  obtain ⟨hx, hb, hre, hml, hown, hts, hC, hlk, -⟩ := id E
  obtain ⟨n1, n2, n3, n4, n5⟩ := hN
  have hcode := hts _ n2
  have hstat := hts _ hs9
  have hini := hts _ n1
  intro T hT X
  obtain ⟨mk, methM, hnamed, hmethM, hsigM⟩ : ∃ mk methM, s.methodNamed? ν.1 = some mk ∧ s.vm.method? mk = some methM ∧ parseMethodDescriptor ν.1.desc = some methM.sig := by
    cases hq : s.methodNamed? ν.1 with
    | none => simp [Cond.before, Cond.holds, Cond.value, hq] at hstat
    | some mk =>
      obtain ⟨meth', c', q1, -, -, -, -, -, -, q2⟩ := jm_cw_spec hq hcode
      exact ⟨mk, meth', rfl, q1, q2⟩
  have hstatic : methM.isStatic = true := Cond.static_spec hnamed hmethM hstat
  obtain ⟨kP, hkP, -⟩ := className_of_methodNamed hnamed
  have hinitP : kP.init = .initialized := Cond.initialized_spec (findClass_of_methodNamed hnamed) hkP hini
  obtain ⟨vm₁, X₁, hstep₁⟩ := X.invokestatic hx hown (hts _ hl9) hnamed hmethM hstatic hkP hinitP n3 (g := F0 m pc arr st) rfl (argsL := As) (rest := rest) (jm_NVn n4 hsigM).symm hst (by rw [hb]; exact hd)
  obtain ⟨t, g1, g2⟩ := jm_after hM hd' n5 h1 h2 hrest hret hthr E (U := T.setVm vm₁) (by rw [← hT] at hR; exact hR) hlo hc hs hl hn X₁ (ig := .invokestatic idx) (by rw [hb]; exact hd) hnamed hcode (List.mem_filter.mp n2).2 hini
  exact ⟨t, hstep₁ _ fun acts => by rw [doInvoke_state]; exact g1, g2⟩
theorem jm_callV {idx b ci nb : Nat} {r : vw_C} (hd : decode μ.2.1 pc = .ok (.invokevirtual idx, 3)) (hl9 : Cond.methodLink μ.1.cls idx ν.1 ∈ jm_ws) (hi9 : Cond.instanceMethod ν.1 ∈ jm_ws) (hse9 : Cond.selects r.1 ν.1 ν.1 ∈ jm_ws) (hcl : jm_cl[ci]? = some r) (hN : jm_NV ν As.length) (hst : st = As.reverse ++ .ref b :: rest) (hb9 : h.1 b = some (ci, nb)) (hrest : rest.length ≤ 4)
    (hd' : d' + 1 ≤ d) (h1 : mc ≤ rc) (h2 : ms ≤ rs) (hM : jm_M Γ ν d' (.ref b :: As) h mc ms Q')
    (hret : ∀ v h', Q' (.inl v) h' → jm_W Γ μ d (rc - mc) (rs - ms) Q (pc + 3) ls (v.toList ++ rest) h') (hthr : ∀ X h', Q' (.inr X) h' → jm_T Γ μ d (rc - mc) (rs - ms) Q pc ls X h') : jm_W Γ μ d rc rs Q pc ls st h := by
  intro p e R s m args below meth c H locs cells slots arr E hR hlo hc hs hl hn
  obtain ⟨hx, hb, hre, hml, hown, hts, hC, hlk, -⟩ := id E
  obtain ⟨n1, n2, n3, n4, n5⟩ := hN
  have hcode := hts _ n2
  have hini := hts _ n1
  obtain ⟨-, r', f1, cellB, f2, f3, f4, -⟩ := (hR.2.2.2 b ci nb hb9).1 (jm_lt hcl jm_cl_len)
  have hcls : s.vm.findClass r.1 = some cellB.cls := by rw [f3]; exact (hC.1.1 ci r hcl).2.1
  intro T hT X
  obtain ⟨mk, methM, hnamed, hmethM, hstM, habM⟩ := Cond.instanceMethod_spec (hts _ hi9)
  obtain ⟨meth', c', q1, -, -, -, -, -, -, hsigM⟩ := jm_cw_spec hnamed hcode
  cases hmethM.symm.trans q1
  obtain ⟨c2, r2, m2, p1, p2, p3, p4, kP, hkP, hkPi⟩ := Cond.selects_spec (hts _ hse9)
  cases hcls.symm.trans p1
  cases (State.methodFound?_of_named hnamed n3).symm.trans p2
  cases hnamed.symm.trans p3
  have hselP : selectMethod e.platform s.vm cellB.cls mk = .method mk := by rw [Launch.admits_selectMethod X.admits]; exact p4
  obtain ⟨vm₁, X₁, hstep₁⟩ := X.invokevirtual hx hown (hts _ hl9) hnamed hmethM hstM hkP hkPi n3 (a := b) (cell := cellB) (by rw [hT]; exact f2)
    (fun z hz => by rw [f4] at hz; cases hz) hselP hmethM habM hkP hkPi (g := F0 m pc arr st) rfl (argsL := As) (rest := rest) (jm_NVn n4 hsigM).symm hst (by rw [hb]; exact hd)
  obtain ⟨t, g1, g2⟩ := jm_after hM hd' n5 h1 h2 hrest hret hthr E (U := T.setVm vm₁) (by rw [← hT] at hR; exact hR) hlo hc hs hl hn X₁ (ig := .invokevirtual idx) (by rw [hb]; exact hd) hnamed hcode (List.mem_filter.mp n2).2 hini
  exact ⟨t, hstep₁ _ fun acts => by rw [doInvoke_state]; exact g1, g2⟩
theorem jm_callI {idx b : Nat} (hd : decode μ.2.1 pc = .ok (.invokespecial idx, 3)) (hnm9 : ν.1.name = "<init>") (hret9 : ν.2.2.2.1 = none) (hh9 : ν.2.2.2.2 = []) (hl9 : Cond.methodLink μ.1.cls idx ν.1 ∈ jm_ws) (hi9 : Cond.instanceMethod ν.1 ∈ jm_ws) (hN : jm_NV ν As.length) (hst : st = As.reverse ++ .ref b :: rest) (hrest : rest.length ≤ 4)
    (hd' : d' + 1 ≤ d) (h1 : mc ≤ rc) (h2 : ms ≤ rs) (hM : jm_M Γ ν d' (.ref b :: As) h mc ms Q')
    (hret : ∀ v h', Q' (.inl v) h' → jm_W Γ μ d (rc - mc) (rs - ms) Q (pc + 3) ls (v.toList ++ rest) h') (hthr : ∀ X h', Q' (.inr X) h' → jm_T Γ μ d (rc - mc) (rs - ms) Q pc ls X h') : jm_W Γ μ d rc rs Q pc ls st h := by
  intro p e R s m args below meth c H locs cells slots arr E hR hlo hc hs hl hn
  obtain ⟨hx, hb, hre, hml, hown, hts, hC, hlk, -⟩ := id E
  obtain ⟨n1, n2, n3, n4, n5⟩ := hN
  have hcode := hts _ n2
  have hini := hts _ n1
  have hcode' : (Cond.code ν.1 ν.2.1 ν.2.2.1 none).before args s = true := by
    have hq := hcode
    unfold jm_cw at hq
    rw [if_pos hh9, hret9] at hq
    exact hq
  intro T hT X
  have hpl : e.platform.magicAccessors = ({} : Platform).magicAccessors := by rw [X.admits.platform]
  obtain ⟨mk, methM, cM, kP, vm₁, hnamed, hmethM, hcodeM, -, hlocalsM, -, hkP, -, hW₁, hstep₁⟩ := Steps.initColdArgs (e := e) X.here hx X.warmed hpl hown hnm9 n3 (hts _ hl9) (hts _ hi9) hcode' (f := F0 m pc arr st) rfl (fun sig hs => (jm_NVn n4 hs).symm) hst (by rw [hb]; exact hd)
  have X₁ := X.noted hW₁
  obtain ⟨t, g1, g2⟩ := jm_after hM hd' n5 h1 h2 hrest hret hthr E (U := T.setVm vm₁) (by rw [← hT] at hR; exact hR) hlo hc hs hl hn X₁ (ig := .invokespecial idx) (by rw [hb]; exact hd) hnamed hcode (List.mem_filter.mp n2).2 hini
  exact ⟨t, hstep₁ _ fun acts => by rw [doInvoke_state]; exact g1, g2⟩
theorem jm_objInit {idx a : Nat} (hd : decode μ.2.1 pc = .ok (.invokespecial idx, 3)) (hl9 : Cond.methodLink μ.1.cls idx Lib.objectInit ∈ jm_ws) (hi9 : Cond.instanceMethod Lib.objectInit ∈ jm_ws) (hc9 : Cond.code Lib.objectInit ⟨#[0xb1]⟩ 1 none ∈ jm_ws) (hd1 : 1 ≤ d) (hst : st.length ≤ 4)
    (k : jm_W Γ μ d rc rs Q (pc + 3) ls st h) : jm_W Γ μ d rc rs Q pc ls (.ref a :: st) h := by
  intro p e R s m args below meth c H locs cells slots arr E hR hlo hc hs hl hn
  obtain ⟨hx, hb, hre, hml, hown, hts, hC, hlk, hnm9, htab, hfr, hlc, -⟩ := id E
  have hst2 : (st.map fun v => v.category).sum ≤ 2 * st.length := by
    clear hst k
    induction st with
    | nil => simp
    | cons v r ih =>
      rcases lv_cat v with q | q <;> simp only [List.map_cons, List.sum_cons, List.length_cons, q] <;> omega
  exact W.objInit hx hb hown (hts _ hl9) (hts _ hi9) (hts _ hc9) rfl (by show arr.size = _; rw [hml, ← hn]; exact hl.1) rfl hd (by omega) (by show 2 * 0 + _ + 12 ≤ R.locals; omega) (k p e R s m args below meth c H locs cells slots arr E hR hlo hc hs hl hn)
end
