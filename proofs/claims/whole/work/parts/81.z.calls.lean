/-! calls over a longer stack. Written by wip/whole/gen/p81z.py -/
section
variable {Γ : jm_G} {μ ν : jm_Mt} {d d' rc rs mc ms : Nat} {Q Q' : jm_O → jm_H → Prop} {pc : Nat} {ls : List (Option Value)} {st As rest : List Value} {h : jm_H}
theorem jm_callVX {idx b ci nb : Nat} {r : vw_C} (hd : decode μ.2.1 pc = .ok (.invokevirtual idx, 3)) (hl9 : Cond.methodLink μ.1.cls idx ν.1 ∈ jm_ws) (hi9 : Cond.instanceMethod ν.1 ∈ jm_ws) (hse9 : Cond.selects r.1 ν.1 ν.1 ∈ jm_ws) (hcl : jm_cl[ci]? = some r) (hN : jm_NV ν As.length) (hst : st = As.reverse ++ .ref b :: rest) (hb9 : h.1 b = some (ci, nb)) (hrest : (rest.map fun v => v.category).sum ≤ 8)
    (hd' : d' + 1 ≤ d) (h1 : mc ≤ rc) (h2 : ms ≤ rs) (hM : jm_M Γ ν d' (.ref b :: As) h mc ms Q')
    (hret : ∀ v h', Q' (.inl v) h' → jm_W Γ μ d (rc - mc) (rs - ms) Q (pc + 3) ls (v.toList ++ rest) h') (hthr : ∀ X h', Q' (.inr X) h' → jm_T Γ μ d (rc - mc) (rs - ms) Q pc ls X h') : jm_W Γ μ d rc rs Q pc ls st h := by
  intro p e R s m args below meth c H locs cells slots arr E hR hlo hc hs hl hn
  obtain ⟨hx, hb, hre, hml, hown, hts, hC, hlk, -⟩ := id E
  obtain ⟨n1, n2, n3, n4, n5⟩ := hN
  have hcode := hts _ n2
  have hini := hts _ n1
  obtain ⟨-, r', f1, cellB, f2, f3, f4, -⟩ := (hR.2.2.2 b ci nb hb9).1 (jm_lt hcl jm_cl_len)
  have hcls : s.vm.findClass r.1 = some cellB.cls := by rw [f3]; exact (hC.1.1 ci r hcl).2.1
  intro T hT X
  obtain ⟨mk, methM, hnamed, hmethM, hstM, habM⟩ := Cond.instanceMethod_spec (hts _ hi9)
  obtain ⟨meth', c', q1, -, -, -, -, -, -, hsigM⟩ := jm_cw_spec hnamed hcode
  cases hmethM.symm.trans q1
  obtain ⟨c2, r2, m2, p1, p2, p3, p4, kP, hkP, hkPi⟩ := Cond.selects_spec (hts _ hse9)
  cases hcls.symm.trans p1
  cases (State.methodFound?_of_named hnamed n3).symm.trans p2
  cases hnamed.symm.trans p3
  have hselP : selectMethod e.platform s.vm cellB.cls mk = .method mk := by rw [Launch.admits_selectMethod X.admits]; exact p4
  obtain ⟨vm₁, X₁, hstep₁⟩ := X.invokevirtual hx hown (hts _ hl9) hnamed hmethM hstM hkP hkPi n3 (a := b) (cell := cellB) (by rw [hT]; exact f2)
    (fun z hz => by rw [f4] at hz; cases hz) hselP hmethM habM hkP hkPi (g := F0 m pc arr st) rfl (argsL := As) (rest := rest) (jm_NVn n4 hsigM).symm hst (by rw [hb]; exact hd)
  obtain ⟨t, g1, g2⟩ := jm_afterX hM hd' n5 h1 h2 hrest hret hthr E (U := T.setVm vm₁) (by rw [← hT] at hR; exact hR) hlo hc hs hl hn X₁ (ig := .invokevirtual idx) (by rw [hb]; exact hd) hnamed hcode (List.mem_filter.mp n2).2 hini
  exact ⟨t, hstep₁ _ fun acts => by rw [doInvoke_state]; exact g1, g2⟩
end
section
variable {Γ : jm_G} {μ ν : jm_Mt} {d d' rc rs : Nat} {Q : jm_O → jm_H → Prop} {pc : Nat} {ls : List (Option Value)} {st As rest : List Value} {h : jm_H}
theorem jm_callVpX {idx b ci nb : Nat} {r : vw_C} {v : Option Value} (hd : decode μ.2.1 pc = .ok (.invokevirtual idx, 3)) (hl9 : Cond.methodLink μ.1.cls idx ν.1 ∈ jm_ws) (hi9 : Cond.instanceMethod ν.1 ∈ jm_ws) (hse9 : Cond.selects r.1 ν.1 ν.1 ∈ jm_ws) (hcl : jm_cl[ci]? = some r) (hN : jm_NV ν As.length) (hst : st = As.reverse ++ .ref b :: rest) (hb9 : h.1 b = some (ci, nb)) (hrest : (rest.map fun v => v.category).sum ≤ 8)
    (hd' : d' + 1 ≤ d) (hM : jm_A Γ ν d' (.ref b :: As) h v) (k : jm_W Γ μ d rc rs Q (pc + 3) ls (v.toList ++ rest) h) : jm_W Γ μ d rc rs Q pc ls st h :=
  jm_callVX hd hl9 hi9 hse9 hcl hN hst hb9 hrest hd' (Nat.zero_le _) (Nat.zero_le _) hM (fun v' h' hq => by obtain ⟨rfl, hv⟩ := hq; cases hv; exact k) (fun X h' hq => by cases hq.2)
end
