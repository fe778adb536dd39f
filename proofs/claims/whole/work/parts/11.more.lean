/-! MORE ROWS: a handler takes the exception; a nest mate's static method; an int array's clone; the cast behind it; consequence -/
section
variable {Γ : jm_G} {μ ν : jm_Mt} {d d' rc rs mc ms : Nat} {Q Q' : jm_O → jm_H → Prop} {pc : Nat} {ls : List (Option Value)} {st As rest : List Value} {h : jm_H}
/-- the name of the class at a catch type -/
def jm_cat (k : Nat) : Nat := match k with
  | 13 => 0
  | 15 => 1
  | _ => 2
theorem jm_Tcatch {X hp : Nat} (hX : X < 3) (hcls : ∀ q ∈ μ.2.2.2.2, q.1 ≤ pc ∧ pc < q.2.1 ∧ q.2.2.2 ≠ 0 ∧ Cond.classLink μ.1.cls q.2.2.2 (jm_xn (jm_cat q.2.2.2)) ∈ jm_ws ∧ jm_cat q.2.2.2 < 3) (hn9 : ∀ a b, a < 3 → b < 3 → jm_xn a = jm_xn b → a = b)
    (hfind : (μ.2.2.2.2.find? (fun q => jm_xn (jm_cat q.2.2.2) == jm_xn X)).map (fun q => q.2.2.1) = some hp) (k : ∀ a, jm_W Γ μ d rc rs Q hp ls [.ref a] h) : jm_T Γ μ d rc rs Q pc ls X h := by
  intro p e R s m args below meth c T locs cells slots arr st a ce E hR hlo hc hs hl hn S ha hv hf
  obtain ⟨hx, hb, hre, hml, hown, hts, hC, hlk, hnm, htab, -⟩ := id E
  have hpl : e.platform.magicAccessors = ({} : Platform).magicAccessors := by rw [S.admits.platform]
  obtain ⟨v', hv', hfin⟩ := jm_search (e := e) (args := args) (s := s) (u := (T.setTop (F0 m pc arr st)).pushFrame (.throwing a)) (g := F0 m pc arr st) (a := a) (cell := ce) (own := μ.1.cls) (xn := jm_xn X) (cX := ce.cls) (by rw [Stand.throwing_vm]; exact S.warmed) hpl hown (by rw [Stand.throwing_heap]; exact ha) hv hf
    (fun k => jm_xn (jm_cat k)) μ.2.2.2.2 hp T.vm S.warmed (fun q hq => by
      obtain ⟨c1, c2, c3, c4, c5⟩ := hcls q hq
      refine ⟨c1, c2, c3, hts _ c4, ?_⟩
      by_cases hz : jm_cat q.2.2.2 = X
      · exact Or.inl (by rw [hz])
      · exact Or.inr (hC.2.2.2.2.2.1 X _ hX c5 (Ne.symm hz))) hfind
  have hfind2 : ∀ (Q : Handler → Pre) (E : CtlPost) (d : Bool) (acts : List Action), wp (findHandler (F0 m pc arr st) a) Q E e d acts ((T.setTop (F0 m pc arr st)).pushFrame (.throwing a)) ↔ Q (.found hp) d acts (((T.setTop (F0 m pc arr st)).pushFrame (.throwing a)).setVm v') := by
    intro Q E d acts
    rw [W.findHandler_eq (meth := meth) (code := c) (by rw [Stand.throwing_vm]; exact S.method') S.code, htab]
    have h9 := hfin Q E d acts
    have e9 : ((T.setTop (F0 m pc arr st)).pushFrame (.throwing a)).setVm T.vm = (T.setTop (F0 m pc arr st)).pushFrame (.throwing a) := by
      exact (congrArg (fun v => ((T.setTop (F0 m pc arr st)).pushFrame (.throwing a)).setVm v) (Stand.throwing_vm T (F0 m pc arr st) a).symm).trans (State.setVm_self _)
    rw [e9] at h9
    exact h9
  have S2 := S.noted hv'
  obtain ⟨t, g1, g2⟩ := k a p e R s m args below meth c T.heap locs cells slots arr E hR hlo hc hs hl hn (T.setVm v') rfl S2
  exact ⟨t, jm_caught S rfl hfind2 g1, g2⟩
theorem jm_callSN {idx : Nat} {host : String} (hd : decode μ.2.1 pc = .ok (.invokestatic idx, 3)) (hl9 : Cond.methodLinkNest μ.1.cls idx ν.1 host ∈ jm_ws) (hs9 : Cond.static ν.1 ∈ jm_ws) (hN : jm_NV ν As.length) (hst : st = As.reverse ++ rest) (hrest : rest.length ≤ 4)
    (hd' : d' + 1 ≤ d) (h1 : mc ≤ rc) (h2 : ms ≤ rs) (hM : jm_M Γ ν d' As h mc ms Q')
    (hret : ∀ v h', Q' (.inl v) h' → jm_W Γ μ d (rc - mc) (rs - ms) Q (pc + 3) ls (v.toList ++ rest) h') (hthr : ∀ X h', Q' (.inr X) h' → jm_T Γ μ d (rc - mc) (rs - ms) Q pc ls X h') : jm_W Γ μ d rc rs Q pc ls st h := by
  intro p e R s m args below meth c H locs cells slots arr E hR hlo hc hs hl hn
  obtain ⟨hx, hb, hre, hml, hown, hts, hC, hlk, -⟩ := id E
  obtain ⟨n1, n2, n3, n4, n5⟩ := hN
  have hcode := hts _ n2
  have hstat := hts _ hs9
  have hini := hts _ n1
  intro T hT X
  obtain ⟨mk, methM, hnamed, hmethM, hsigM⟩ : ∃ mk methM, s.methodNamed? ν.1 = some mk ∧ s.vm.method? mk = some methM ∧ parseMethodDescriptor ν.1.desc = some methM.sig := by
    cases hq : s.methodNamed? ν.1 with
    | none => simp [Cond.before, Cond.holds, Cond.value, hq] at hstat
    | some mk =>
      obtain ⟨meth', c', q1, -, -, -, -, -, -, q2⟩ := jm_cw_spec hq hcode
      exact ⟨mk, meth', rfl, q1, q2⟩
  have hstatic : methM.isStatic = true := Cond.static_spec hnamed hmethM hstat
  obtain ⟨kP, hkP, -⟩ := className_of_methodNamed hnamed
  have hinitP : kP.init = .initialized := Cond.initialized_spec (findClass_of_methodNamed hnamed) hkP hini
  obtain ⟨vm₁, X₁, hstep₁⟩ := X.invokestaticNest hx hown (hts _ hl9) hnamed hmethM hstatic hkP hinitP n3 (g := F0 m pc arr st) rfl (argsL := As) (rest := rest) (jm_NVn n4 hsigM).symm hst (by rw [hb]; exact hd)
  obtain ⟨t, g1, g2⟩ := jm_after hM hd' n5 h1 h2 hrest hret hthr E (U := T.setVm vm₁) (by rw [← hT] at hR; exact hR) hlo hc hs hl hn X₁ (ig := .invokestatic idx) (by rw [hb]; exact hd) hnamed hcode (List.mem_filter.mp n2).2 hini
  exact ⟨t, hstep₁ _ fun acts => by rw [doInvoke_state]; exact g1, g2⟩
theorem jm_clone {idx a n : Nat} (hd : decode μ.2.1 pc = .ok (.invokevirtual idx, 3)) (hl9 : Cond.methodLink μ.1.cls idx ⟨"[I", "clone", "()Ljava/lang/Object;"⟩ ∈ jm_ws) (hs9 : Cond.sameMethod "[I" "java/lang/Object" "clone" "()Ljava/lang/Object;" ∈ jm_ws)
    (hn9 : Cond.native ⟨"java/lang/Object", "clone", "()Ljava/lang/Object;"⟩ ∈ jm_ws) (hi9 : Cond.instanceMethod ⟨"java/lang/Object", "clone", "()Ljava/lang/Object;"⟩ ∈ jm_ws) (hse9 : Cond.selects "[I" ⟨"[I", "clone", "()Ljava/lang/Object;"⟩ ⟨"java/lang/Object", "clone", "()Ljava/lang/Object;"⟩ ∈ jm_ws)
    (hc9 : Cond.castable "[I" "java/lang/Cloneable" ∈ jm_ws) (ha : h.1 a = some (100, n)) (hfit9 : ∀ i, i < n → ∃ x : Int32, h.2 100 i a = .int x) (hd1 : 1 ≤ d) (hst : st.length ≤ 4) (h1 : 1 ≤ rc) (h2 : n ≤ rs)
    (k : ∀ q, h.1 q = none → jm_W Γ μ d (rc - 1) (rs - n) Q (pc + 3) ls (.ref q :: st) (jm_new h q (100, n) (fun i => h.2 100 i a))) : jm_W Γ μ d rc rs Q pc ls (.ref a :: st) h := by
  intro p e R s m args below meth c H locs cells slots arr E hR hlo hc hs hl hn
  obtain ⟨hx, hb, hre, hml, hown, hts, hC, hlk, hnm9, htab, hfr, hlc, -⟩ := id E
  obtain ⟨hb0, hn31, g1, g2, g3⟩ := jm_arr (k := 0) hR hC (by decide) ha
  have hnm : s.vm.findClass "[I" = some (jm_dA Γ 0) := va_nm_int g3
  have hst2 : (st.map fun v => v.category).sum ≤ 2 * st.length := by
    clear hst k
    induction st with
    | nil => simp
    | cons v r ih =>
      rcases lv_cat v with q | q <;> simp only [List.map_cons, List.sum_cons, List.length_cons, q] <;> omega
  obtain ⟨c0, t0', f1, f2, f3⟩ := Cond.castable_spec (hts _ hc9)
  cases hnm.symm.trans f1
  intro T hT X
  have hcellT : T.heap[a]? = some (arrV (jm_dA Γ 0) n (fun i => h.2 100 i a)) := by rw [hT]; exact g1
  obtain ⟨-, kA, hkA, comp, hkind⟩ := State.isArrayOf_alike X.warmed.alike g2
  obtain ⟨-, kS, hkS, compS, hkindS⟩ := g2
  obtain ⟨vm', X', st9⟩ := X.cloneArray hx hown (hts _ hl9) (hts _ hs9) (hts _ hn9) (hts _ hi9) (hts _ hse9) (a := a) (cell := arrV (jm_dA Γ 0) n (fun i => h.2 100 i a)) hcellT (fun k h => by cases h) (fun h => by cases h) hnm f2 f3
    (fun i v hv => by
      have hk' : T.vm.classes[jm_dA Γ 0]? = some kA := hkA
      have hfv : fits .int v = true := va_fit (fun i hi => by obtain ⟨x, hx⟩ := hfit9 i hi; rw [hx]; rfl) i v hv
      show T.fitsSlot (jm_dA Γ 0) .none i v = true
      have hkind' : kA.kind = .array comp .int := hkind
      simpa [State.fitsSlot, State.slotType?, hk', hkind'] using hfv)
    (g := F0 m pc arr (.ref a :: st)) rfl (by show arr.size = _; rw [hml, ← hn]; exact hl.1) rfl (by rw [hb]; exact hd) (by omega) (by show 2 * 0 + (st.map fun v => v.category).sum + 14 ≤ _; omega) (by omega) (by rw [arrV_size]; omega) (hloader := Vm.clonesLoader_of_array hkS hkindS)
  rw [arrV_size] at X'
  generalize hH1 : H.push (arrV (jm_dA Γ 0) n (fun i => h.2 100 i a)) = H1
  have z1 : H1.size = H.size + 1 := by rw [← hH1, Array.size_push]
  have e1 : H1[H.size]? = some (arrV (jm_dA Γ 0) n (fun i => h.2 100 i a)) := by rw [← hH1, Array.getElem?_push_size]
  have o1 : ∀ q : Nat, q < H.size → H1[q]? = H[q]? := fun q hq => by rw [← hH1, Array.getElem?_push, if_neg (Nat.ne_of_lt hq)]
  obtain ⟨b1, b2⟩ := hR.born (kn := (100, n)) (dv := fun i => h.2 100 i a) z1 o1 (by show (100 : Nat) < 150; decide) hn31 (fun q => absurd (show (100 : Nat) < 100 from q) (by decide)) (fun _ => e1)
  obtain ⟨t, q1, q2⟩ := k H.size b1 p e R s m args below meth c H1 locs (cells + 1) (slots + n) arr E b2 hlo (by omega) (by omega) hl hn ((T.setVm vm').pushCell (arrV (jm_dA Γ 0) n (fun i => h.2 100 i a))) (by rw [← hH1, ← hT]; rfl) X'
  refine ⟨t, st9 t ?_, q2⟩
  rw [hT]
  exact q1
theorem jm_castI {idx a n : Nat} (hd : decode μ.2.1 pc = .ok (.checkcast idx, 3)) (hl9 : Cond.classLink μ.1.cls idx "[I" ∈ jm_ws) (ha : h.1 a = some (100, n)) (k : jm_W Γ μ d rc rs Q (pc + 3) ls (.ref a :: st) h) : jm_W Γ μ d rc rs Q pc ls (.ref a :: st) h := by
  intro p e R s m args below meth c H locs cells slots arr E hR hlo hc hs hl hn
  obtain ⟨hx, hb, hre, hml, hown, hts, hC, hlk, hnm9, htab, hfr, hlc, -⟩ := id E
  obtain ⟨hb0, hn31, g1, g2, g3⟩ := jm_arr (k := 0) hR hC (by decide) ha
  have hnm : s.vm.findClass "[I" = some (jm_dA Γ 0) := va_nm_int g3
  intro T hT X
  obtain ⟨vm', X', st9⟩ := X.checkcastYes hx hown (hts _ hl9) (by rw [hT]; exact g1) rfl hnm (va_asg _ _) (g := F0 m pc arr (.ref a :: st)) rfl rfl (by rw [hb]; exact hd)
  obtain ⟨t, a1, b1⟩ := k p e R s m args below meth c H locs cells slots arr E hR hlo hc hs hl hn (T.setVm vm') hT X'
  exact ⟨t, st9 t a1, b1⟩
/-- consequence -/
theorem jm_M.cons {av : List Value} (hM : jm_M Γ μ d av h mc ms Q') (hQ : ∀ oc h', Q' oc h' → Q oc h') : jm_M Γ μ d av h mc ms Q := by
  intro p e ha hc hk s m args below hf happ hP hK
  obtain ⟨n, o, h1, h2, h3, ⟨oc, h', q1, q2, q3⟩, q4⟩ := hM p e ha hc hk s m args below hf happ hP hK
  exact ⟨n, o, h1, h2, h3, ⟨oc, h', hQ oc h' q1, q2, q3⟩, q4⟩
end
