/-! calls over a longer stack. Written by wip/whole/gen/p63z.py -/
section
variable {Γ : jm_G} {μ : jm_Mt} {d rc rs : Nat} {Q : jm_O → jm_H → Prop} {pc : Nat} {ls : List (Option Value)} {st : List Value} {h : jm_H}
theorem jm_afterX {ν : jm_Mt} {d' mc ms : Nat} {av rest : List Value} {Q' : jm_O → jm_H → Prop} (hM : jm_M Γ ν d' av h mc ms Q') (hd' : d' + 1 ≤ d) (hL9 : ν.2.2.1 ≤ 17) (h1 : mc ≤ rc) (h2 : ms ≤ rs) (hrest : (rest.map fun v => v.category).sum ≤ 8)
    (hret : ∀ v h', Q' (.inl v) h' → jm_W Γ μ d (rc - mc) (rs - ms) Q (pc + 3) ls (v.toList ++ rest) h') (hthr : ∀ X h', Q' (.inr X) h' → jm_T Γ μ d (rc - mc) (rs - ms) Q pc ls X h')
    {p : Program} {e : Env} {R : Room} {s : State} {m : MethodId} {args : Array Value} {below : List Frame} {meth : Method} {c : Code} {U : State} {locs : List Loc} {cells slots : Nat} {arr : Array Slot} {ig : Instr} {mk : MethodId}
    (E : jm_E Γ μ d p R s m args meth c) (hR : jm_R Γ s h U.heap) (hlo : ∀ q ∈ locs, jm_b Γ ≤ q.base) (hc : cells + rc ≤ R.cells) (hs : slots + rs ≤ R.slots) (hl : jm_L ls arr) (hn : ls.length = μ.2.2.1)
    (S : Stand p (jm_l Γ) e R s m args below meth c U locs cells slots) (hdg : decode c.code pc = .ok (ig, 3)) (hnm : s.methodNamed? ν.1 = some mk) (hcw : (jm_cw ν).before args s = true) (hcg : jm_good (jm_cw ν) = true) (hini : (Cond.initialized ν.1.cls).before args s = true) :
    ∃ t, Steps p.tables e below (doInvoke e (U.setTop (F0 m pc arr rest)) [] mk av.toArray).1 t ∧ jm_Z Γ R.cells R.slots Q s below t := by
  obtain ⟨hx, hb, hre, hml, hown, hts, hC, hlk, hnm9, htab, hfr, hlc, hbs⟩ := id E
  have hwU : ∀ w ∈ jm_cw ν :: jm_ws, w.before av.toArray U = true := by
    intro w hw
    rcases List.mem_cons.mp hw with rfl | hw
    · exact jm_word S.warmed hcg hcw
    · exact jm_word S.warmed (List.mem_filter.mp hw).2 (hts w hw)
  have hnU : U.methodNamed? ν.1 = some mk := S.named hnm
  obtain ⟨methY, cY, q1, q2, -, q4, -, -, -, -⟩ := jm_cw_spec hnU (hwU _ List.mem_cons_self)
  have hini' : (Cond.initialized ν.1.cls).before av.toArray U = true := word_at S.warmed (Or.inl (by first | rfl | simp [Cond.onTables, Cond.keeps, Cond.steady])) hini
  obtain ⟨o, t, T', L, X', hL, e1, e2, ⟨⟨oc, h', hq, hoc, hR'⟩, -⟩, hst9⟩ := jm_back S (free := fun q => jm_b Γ ≤ q) (g := F0 m pc arr rest) (ig := ig) (len := 3) hM (fun st o t hq => hq.2) rfl (by show arr.size = _; rw [hml, ← hn]; exact hl.1) hdg
    (by show 2 * 0 + (rest.map fun v => v.category).sum ≤ 8; omega) hnU q1 q2 (by show d' + 1 ≤ R.frames; omega) (by show 8 + (cY.maxLocals + 11) + 36 * d' ≤ R.locals; rw [q4]; omega) (by show cells + mc ≤ R.cells; omega) (by show slots + ms ≤ R.slots; omega) hwU hini'
    ⟨rfl, jm_C.warm (U := U.calling (F0 m pc arr rest) mk av.toArray) S.warmed hC, hR.moved (U := U.calling (F0 m pc arr rest) mk av.toArray) S.warmed.alike⟩
  have hR2 : jm_R Γ s h' T'.heap := by
    rw [e1]
    refine jm_R.moved ?_ hR'
    rw [← e2]
    exact X'.warmed.alike.symm
  have hlo2 : ∀ q ∈ locs ++ L, jm_b Γ ≤ q.base := by
    intro q hq
    rcases List.mem_append.mp hq with g | g
    · exact hlo q g
    · exact hL q g
  cases oc with
  | inl v =>
    cases hoc
    obtain ⟨t2, g1, g2⟩ := hret v h' hq p e R s m args below meth c T'.heap (locs ++ L) (cells + mc) (slots + ms) arr E hR2 hlo2 (by omega) (by omega) hl hn T' rfl X'
    exact ⟨t2, hst9.trans g1, g2⟩
  | inr Xn =>
    obtain ⟨a, ce, rfl, ha, hv, hf⟩ := hoc
    obtain ⟨t2, g1, g2⟩ := hthr Xn h' hq p e R s m args below meth c T' (locs ++ L) (cells + mc) (slots + ms) arr rest a ce E hR2 hlo2 (by omega) (by omega) hl hn X' (by rw [e1]; exact ha) hv (by rw [← X'.warmed.alike.findClass, e2]; exact hf)
    exact ⟨t2, hst9.trans g1, g2⟩
end
section
variable {Γ : jm_G} {μ ν : jm_Mt} {d d' rc rs mc ms : Nat} {Q Q' : jm_O → jm_H → Prop} {pc : Nat} {ls : List (Option Value)} {st As rest : List Value} {h : jm_H}
theorem jm_callSX {idx : Nat} (hd : decode μ.2.1 pc = .ok (.invokestatic idx, 3)) (hl9 : Cond.methodLink μ.1.cls idx ν.1 ∈ jm_ws) (hs9 : Cond.static ν.1 ∈ jm_ws) (hN : jm_NV ν As.length) (hst : st = As.reverse ++ rest) (hrest : (rest.map fun v => v.category).sum ≤ 8)
    (hd' : d' + 1 ≤ d) (h1 : mc ≤ rc) (h2 : ms ≤ rs) (hM : jm_M Γ ν d' As h mc ms Q')
    (hret : ∀ v h', Q' (.inl v) h' → jm_W Γ μ d (rc - mc) (rs - ms) Q (pc + 3) ls (v.toList ++ rest) h') (hthr : ∀ X h', Q' (.inr X) h' → jm_T Γ μ d (rc - mc) (rs - ms) Q pc ls X h') : jm_W Γ μ d rc rs Q pc ls st h := by
  intro p e R s m args below meth c H locs cells slots arr E hR hlo hc hs hl hn
  obtain ⟨hx, hb, hre, hml, hown, hts, hC, hlk, -⟩ := id E
  obtain ⟨n1, n2, n3, n4, n5⟩ := hN
  have hcode := hts _ n2
  have hstat := hts _ hs9
  have hini := hts _ n1
  intro T hT X
  obtain ⟨mk, methM, hnamed, hmethM, hsigM⟩ : ∃ mk methM, s.methodNamed? ν.1 = some mk ∧ s.vm.method? mk = some methM ∧ parseMethodDescriptor ν.1.desc = some methM.sig := by
    cases hq : s.methodNamed? ν.1 with
    | none => simp [Cond.before, Cond.holds, Cond.value, hq] at hstat
    | some mk =>
      obtain ⟨meth', c', q1, -, -, -, -, -, -, q2⟩ := jm_cw_spec hq hcode
      exact ⟨mk, meth', rfl, q1, q2⟩
  have hstatic : methM.isStatic = true := Cond.static_spec hnamed hmethM hstat
  obtain ⟨kP, hkP, -⟩ := className_of_methodNamed hnamed
  have hinitP : kP.init = .initialized := Cond.initialized_spec (findClass_of_methodNamed hnamed) hkP hini
  obtain ⟨vm₁, X₁, hstep₁⟩ := X.invokestatic hx hown (hts _ hl9) hnamed hmethM hstatic hkP hinitP n3 (g := F0 m pc arr st) rfl (argsL := As) (rest := rest) (jm_NVn n4 hsigM).symm hst (by rw [hb]; exact hd)
  obtain ⟨t, g1, g2⟩ := jm_afterX hM hd' n5 h1 h2 hrest hret hthr E (U := T.setVm vm₁) (by rw [← hT] at hR; exact hR) hlo hc hs hl hn X₁ (ig := .invokestatic idx) (by rw [hb]; exact hd) hnamed hcode (List.mem_filter.mp n2).2 hini
  exact ⟨t, hstep₁ _ fun acts => by rw [doInvoke_state]; exact g1, g2⟩
theorem jm_callIX {idx b : Nat} (hd : decode μ.2.1 pc = .ok (.invokespecial idx, 3)) (hnm9 : ν.1.name = "<init>") (hret9 : ν.2.2.2.1 = none) (hh9 : ν.2.2.2.2 = []) (hl9 : Cond.methodLink μ.1.cls idx ν.1 ∈ jm_ws) (hi9 : Cond.instanceMethod ν.1 ∈ jm_ws) (hN : jm_NV ν As.length) (hst : st = As.reverse ++ .ref b :: rest) (hrest : (rest.map fun v => v.category).sum ≤ 8)
    (hd' : d' + 1 ≤ d) (h1 : mc ≤ rc) (h2 : ms ≤ rs) (hM : jm_M Γ ν d' (.ref b :: As) h mc ms Q')
    (hret : ∀ v h', Q' (.inl v) h' → jm_W Γ μ d (rc - mc) (rs - ms) Q (pc + 3) ls (v.toList ++ rest) h') (hthr : ∀ X h', Q' (.inr X) h' → jm_T Γ μ d (rc - mc) (rs - ms) Q pc ls X h') : jm_W Γ μ d rc rs Q pc ls st h := by
  intro p e R s m args below meth c H locs cells slots arr E hR hlo hc hs hl hn
  obtain ⟨hx, hb, hre, hml, hown, hts, hC, hlk, -⟩ := id E
  obtain ⟨n1, n2, n3, n4, n5⟩ := hN
  have hcode := hts _ n2
  have hini := hts _ n1
  have hcode' : (Cond.code ν.1 ν.2.1 ν.2.2.1 none).before args s = true := by
    have hq := hcode
    unfold jm_cw at hq
    rw [if_pos hh9, hret9] at hq
    exact hq
  intro T hT X
  have hpl : e.platform.magicAccessors = ({} : Platform).magicAccessors := by rw [X.admits.platform]
  obtain ⟨mk, methM, cM, kP, vm₁, hnamed, hmethM, hcodeM, -, hlocalsM, -, hkP, -, hW₁, hstep₁⟩ := Steps.initColdArgs (e := e) X.here hx X.warmed hpl hown hnm9 n3 (hts _ hl9) (hts _ hi9) hcode' (f := F0 m pc arr st) rfl (fun sig hs => (jm_NVn n4 hs).symm) hst (by rw [hb]; exact hd)
  have X₁ := X.noted hW₁
  obtain ⟨t, g1, g2⟩ := jm_afterX hM hd' n5 h1 h2 hrest hret hthr E (U := T.setVm vm₁) (by rw [← hT] at hR; exact hR) hlo hc hs hl hn X₁ (ig := .invokespecial idx) (by rw [hb]; exact hd) hnamed hcode (List.mem_filter.mp n2).2 hini
  exact ⟨t, hstep₁ _ fun acts => by rw [doInvoke_state]; exact g1, g2⟩
end
section
variable {Γ : jm_G} {μ ν : jm_Mt} {d d' rc rs : Nat} {Q : jm_O → jm_H → Prop} {pc : Nat} {ls : List (Option Value)} {st As rest : List Value} {h : jm_H}
theorem jm_callSpX {idx : Nat} {v : Option Value} (hd : decode μ.2.1 pc = .ok (.invokestatic idx, 3)) (hl9 : Cond.methodLink μ.1.cls idx ν.1 ∈ jm_ws) (hs9 : Cond.static ν.1 ∈ jm_ws) (hN : jm_NV ν As.length) (hst : st = As.reverse ++ rest) (hrest : (rest.map fun v => v.category).sum ≤ 8)
    (hd' : d' + 1 ≤ d) (hM : jm_A Γ ν d' As h v) (k : jm_W Γ μ d rc rs Q (pc + 3) ls (v.toList ++ rest) h) : jm_W Γ μ d rc rs Q pc ls st h :=
  jm_callSX hd hl9 hs9 hN hst hrest hd' (Nat.zero_le _) (Nat.zero_le _) hM (fun v' h' hq => by obtain ⟨rfl, hv⟩ := hq; cases hv; exact k) (fun X h' hq => by cases hq.2)
end
