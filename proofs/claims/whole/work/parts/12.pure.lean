/-! CALLS of methods that only answer -/
section
variable {Γ : jm_G} {μ ν : jm_Mt} {d d' rc rs : Nat} {Q : jm_O → jm_H → Prop} {pc : Nat} {ls : List (Option Value)} {st As rest : List Value} {h : jm_H}
/-- a method that answers v and leaves the heap -/
abbrev jm_A (Γ : jm_G) (ν : jm_Mt) (d : Nat) (As : List Value) (h : jm_H) (v : Option Value) : Prop := jm_M Γ ν d As h 0 0 (fun oc h' => h' = h ∧ oc = .inl v)
theorem jm_callSp {idx : Nat} {v : Option Value} (hd : decode μ.2.1 pc = .ok (.invokestatic idx, 3)) (hl9 : Cond.methodLink μ.1.cls idx ν.1 ∈ jm_ws) (hs9 : Cond.static ν.1 ∈ jm_ws) (hN : jm_NV ν As.length) (hst : st = As.reverse ++ rest) (hrest : rest.length ≤ 4)
    (hd' : d' + 1 ≤ d) (hM : jm_A Γ ν d' As h v) (k : jm_W Γ μ d rc rs Q (pc + 3) ls (v.toList ++ rest) h) : jm_W Γ μ d rc rs Q pc ls st h :=
  jm_callS hd hl9 hs9 hN hst hrest hd' (Nat.zero_le _) (Nat.zero_le _) hM (fun v' h' hq => by obtain ⟨rfl, hv⟩ := hq; cases hv; exact k) (fun X h' hq => by cases hq.2)
theorem jm_callSNp {idx : Nat} {host : String} {v : Option Value} (hd : decode μ.2.1 pc = .ok (.invokestatic idx, 3)) (hl9 : Cond.methodLinkNest μ.1.cls idx ν.1 host ∈ jm_ws) (hs9 : Cond.static ν.1 ∈ jm_ws) (hN : jm_NV ν As.length) (hst : st = As.reverse ++ rest) (hrest : rest.length ≤ 4)
    (hd' : d' + 1 ≤ d) (hM : jm_A Γ ν d' As h v) (k : jm_W Γ μ d rc rs Q (pc + 3) ls (v.toList ++ rest) h) : jm_W Γ μ d rc rs Q pc ls st h :=
  jm_callSN hd hl9 hs9 hN hst hrest hd' (Nat.zero_le _) (Nat.zero_le _) hM (fun v' h' hq => by obtain ⟨rfl, hv⟩ := hq; cases hv; exact k) (fun X h' hq => by cases hq.2)
theorem jm_callVp {idx b ci nb : Nat} {r : vw_C} {v : Option Value} (hd : decode μ.2.1 pc = .ok (.invokevirtual idx, 3)) (hl9 : Cond.methodLink μ.1.cls idx ν.1 ∈ jm_ws) (hi9 : Cond.instanceMethod ν.1 ∈ jm_ws) (hse9 : Cond.selects r.1 ν.1 ν.1 ∈ jm_ws) (hcl : jm_cl[ci]? = some r) (hN : jm_NV ν As.length) (hst : st = As.reverse ++ .ref b :: rest) (hb9 : h.1 b = some (ci, nb)) (hrest : rest.length ≤ 4)
    (hd' : d' + 1 ≤ d) (hM : jm_A Γ ν d' (.ref b :: As) h v) (k : jm_W Γ μ d rc rs Q (pc + 3) ls (v.toList ++ rest) h) : jm_W Γ μ d rc rs Q pc ls st h :=
  jm_callV hd hl9 hi9 hse9 hcl hN hst hb9 hrest hd' (Nat.zero_le _) (Nat.zero_le _) hM (fun v' h' hq => by obtain ⟨rfl, hv⟩ := hq; cases hv; exact k) (fun X h' hq => by cases hq.2)
/-- more room -/
theorem jm_W.room {rc' rs' : Nat} (h1 : rc' ≤ rc) (h2 : rs' ≤ rs) (k : jm_W Γ μ d rc' rs' Q pc ls st h) : jm_W Γ μ d rc rs Q pc ls st h :=
  fun p e R s m args below meth c H locs cells slots arr E hR hlo hc hs hl hn => k p e R s m args below meth c H locs cells slots arr E hR hlo (by omega) (by omega) hl hn
theorem jm_W.mono {Q' : jm_O → jm_H → Prop} (hQ : ∀ oc h', Q' oc h' → Q oc h') (k : jm_W Γ μ d rc rs Q' pc ls st h) : jm_W Γ μ d rc rs Q pc ls st h :=
  fun p e R s m args below meth c H locs cells slots arr E hR hlo hc hs hl hn => jm_mono (fun t ⟨o, g1, g2, ⟨oc, h', g3, g4, g5⟩, g6⟩ => ⟨o, g1, g2, ⟨oc, h', hQ oc h' g3, g4, g5⟩, g6⟩) (k p e R s m args below meth c H locs cells slots arr E hR hlo hc hs hl hn)
end
section
variable {Γ : jm_G} {μ : jm_Mt} {d rc rs : Nat} {Q : jm_O → jm_H → Prop} {pc : Nat} {ls : List (Option Value)} {st : List Value} {h : jm_H}
theorem jm_ldcw {idx : Nat} {v : Int32} (hd : decode μ.2.1 pc = .ok (.ldc_w idx, 3)) (hw : Cond.constant μ.1.cls idx v ∈ jm_ws) (k : jm_W Γ μ d rc rs Q (pc + 3) ls (.int v :: st) h) : jm_W Γ μ d rc rs Q pc ls st h := by
  intro p e R s m args below meth c H locs cells slots arr E hR hlo hc hs hl hn
  obtain ⟨hx, hb, hr, hml, hown, hts, hC, -⟩ := id E
  exact lv_ldcw hx hb hown (hts _ hw) hd (k p e R s m args below meth c H locs cells slots arr E hR hlo hc hs hl hn)
end
