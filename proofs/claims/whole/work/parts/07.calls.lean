/-! ENDS, ENTRY, CALLS, over jm_W and jm_M -/
section
variable {Γ : jm_G} {μ : jm_Mt} {d rc rs : Nat} {Q : jm_O → jm_H → Prop} {pc : Nat} {ls : List (Option Value)} {st : List Value} {h : jm_H}
theorem jm_Zof {p : Program} {l : Launch} {e : Env} {R : Room} {s : State} {m : MethodId} {args : Array Value} {below : List Frame} {meth : Method} {c : Code} {H : Heap} {locs : List Loc} {cells slots : Nat} {g : JFrame} (hc : cells ≤ R.cells) (hs : slots ≤ R.slots)
    (k : W p l e R s m args below meth c H locs R.cells R.slots (MQ below (fun _ _ o t => ∃ (oc : jm_O) (h' : jm_H), Q oc h' ∧ jm_OR oc o t ∧ jm_R Γ t h' t.heap) args s R.cells R.slots (fun q => jm_b Γ ≤ q)) g) :
    W p l e R s m args below meth c H locs cells slots (jm_Z Γ R.cells R.slots Q s below) g :=
  W.widen hc hs (jm_mono (fun t ⟨o, h1, h2, h3, L, h4, h5⟩ => ⟨o, h1, h2, h3, L, ⟨h4.2.1, h4.2.2⟩, h5⟩) k)
theorem jm_iret {x : Int32} (hd : decode μ.2.1 pc = .ok (.ireturn, 1)) (hr : μ.2.2.2.1 = some .int) (k : Q (.inl (some (.int x))) h) : jm_W Γ μ d rc rs Q pc ls [.int x] h := by
  intro p e R s m args below meth c H locs cells slots arr E hR hlo hc hs hl hn
  obtain ⟨hx, hb, hre, hml, hown, hts, hC, hlk, -⟩ := id E
  exact jm_Zof (by omega) (by omega) (W.iret hx hb (hre.trans hr) (fun t ht hW => ⟨_, h, k, rfl, by rw [ht]; exact hR.moved hW.alike⟩) hlo hd)
theorem jm_zret {x : Int32} (hd : decode μ.2.1 pc = .ok (.ireturn, 1)) (hr : μ.2.2.2.1 = some .boolean) (hx9 : narrow .boolean (.int x) = .int x) (k : Q (.inl (some (.int x))) h) : jm_W Γ μ d rc rs Q pc ls [.int x] h := by
  intro p e R s m args below meth c H locs cells slots arr E hR hlo hc hs hl hn
  obtain ⟨hx, hb, hre, hml, hown, hts, hC, hlk, -⟩ := id E
  exact jm_Zof (by omega) (by omega) (W.zret hx hb (hre.trans hr) hx9 (fun t ht hW => ⟨_, h, k, rfl, by rw [ht]; exact hR.moved hW.alike⟩) hlo hd)
theorem jm_vret (hd : decode μ.2.1 pc = .ok (.return_, 1)) (hr : μ.2.2.2.1 = none) (k : Q (.inl none) h) : jm_W Γ μ d rc rs Q pc ls [] h := by
  intro p e R s m args below meth c H locs cells slots arr E hR hlo hc hs hl hn
  obtain ⟨hx, hb, hre, hml, hown, hts, hC, hlk, -⟩ := id E
  exact jm_Zof (by omega) (by omega) (W.vret hx hb (hre.trans hr) (fun t ht hW => ⟨_, h, k, rfl, by rw [ht]; exact hR.moved hW.alike⟩) hlo hd)
theorem jm_aret {v : Value} {rt : FieldType} (hd : decode μ.2.1 pc = .ok (.areturn, 1)) (hr : μ.2.2.2.1 = some rt) (hrt : (∃ n, rt = .object n) ∨ ∃ t, rt = .array t) (hv : v = .null ∨ ∃ a, v = .ref a) (k : Q (.inl (some v)) h) : jm_W Γ μ d rc rs Q pc ls [v] h := by
  intro p e R s m args below meth c H locs cells slots arr E hR hlo hc hs hl hn
  obtain ⟨hx, hb, hre, hml, hown, hts, hC, hlk, -⟩ := id E
  exact jm_Zof (by omega) (by omega) (W.aret hx hb (hre.trans hr) hrt hv (fun t ht hW => ⟨_, h, k, rfl, by rw [ht]; exact hR.moved hW.alike⟩) hlo hd)
theorem jm_sl : ∀ (av : List Value), (∀ v ∈ av, v.category = 1) → lg_sl av = av.map Slot.val
  | [], _ => rfl
  | v :: r, hv => by
    have h1 : v.category = 1 := hv v List.mem_cons_self
    have ih := jm_sl r (fun w hw => hv w (List.mem_cons_of_mem _ hw))
    unfold lg_sl at ih ⊢
    rw [List.flatMap_cons, ih, if_neg (by omega)]
    rfl
/-- a method's code word, read -/
theorem jm_cw_spec {args : Array Value} {s : State} {m : MethodId} (hn : s.methodNamed? μ.1 = some m) (hw : (jm_cw μ).before args s = true) :
    ∃ meth c, s.vm.method? m = some meth ∧ meth.code = some c ∧ c.code = μ.2.1 ∧ c.maxLocals = μ.2.2.1 ∧ meth.sig.returnType = μ.2.2.2.1 ∧ meth.locks = false ∧ c.exceptionTable.toList = tableOf μ.2.2.2.2 ∧ parseMethodDescriptor μ.1.desc = some meth.sig := by
  unfold jm_cw at hw
  split at hw
  · rename_i hh
    obtain ⟨meth, c, h1, h2, h3, h4, h5, h6, h7, h8⟩ := Cond.code_spec hn hw
    refine ⟨meth, c, h1, h2, h3, h4, h5, h6, ?_, h8⟩
    rw [hh]
    have h0 : c.exceptionTable.size = 0 := by simpa [Array.isEmpty] using h7
    exact List.eq_nil_of_length_eq_zero (by simpa using h0)
  · obtain ⟨m', meth, c, hn', h1, h2, h3, h4, h5, h6, h7, h8⟩ := Cond.codeWith_spec hw
    cases hn.symm.trans hn'
    refine ⟨meth, c, h1, h2, h3, h4, h6, h7, ?_, h8⟩
    rw [← h5, table_eq]
theorem jm_entry {av : List Value} {mc ms : Nat} (hy : plainName μ.1.cls = true) (hav : ∀ v ∈ av, v.category = 1) (hlen : av.length ≤ μ.2.2.1)
    (k : jm_W Γ μ d mc ms Q 0 (av.map some ++ List.replicate (μ.2.2.1 - av.length) none) [] h) : jm_M Γ μ d av h mc ms Q := by
  refine MetFree.of_bodyS (code := μ.2.1) (maxLocals := μ.2.2.1) (ret := μ.2.2.2.1) hy ?_ ?_
  · intro args s m hp hn
    obtain ⟨meth, c, h1, h2, h3, h4, h5, h6, -, -⟩ := jm_cw_spec hn (atoms_spec (ws := jm_cw μ :: jm_ws) hp _ List.mem_cons_self)
    exact ⟨meth, c, h1, h2, h3, h4, h5, h6⟩
  · intro p e s m args below meth c s₁ B hml hP _
    obtain ⟨rfl, hC, hR⟩ := hP
    have hts := atoms_spec (ws := jm_cw μ :: jm_ws) B.pre
    have hown : s.vm.findClass μ.1.cls = some m.cls := findClass_of_methodNamed B.named
    obtain ⟨meth', c', h1, h2, -, -, -, -, h7, -⟩ := jm_cw_spec B.named (hts _ List.mem_cons_self)
    cases B.method.symm.trans h1
    cases (Stand.of_body B).code.symm.trans h2
    have hE : jm_E Γ μ d p (jm_rm d mc ms) s m av.toArray meth c :=
      ⟨B.exec, B.bytes, B.returns, hml, hown, fun w hw => hts w (List.mem_cons_of_mem _ hw), hC, B.notSynchronized, (name_of_methodNamed B.named B.method).1, h7, Nat.le_refl _, Nat.le_refl _, hR.1, hR.2.1, hR.2.2.1⟩
    have hsl := jm_sl av hav
    have hlv := lv_entry av (n := μ.2.2.1) (by rw [hsl, List.length_map]; exact hlen)
    have hw := k p e (jm_rm d mc ms) s m av.toArray below meth c s.heap [] 0 0 ((lg_sl av ++ List.replicate (μ.2.2.1 - (lg_sl av).length) Slot.unset).toArray) hE hR (fun q hq => by cases hq) (by show 0 + mc ≤ mc; omega) (by show 0 + ms ≤ ms; omega)
      ⟨by rw [hlv.1]; simp; omega, hlv.2.1, fun i v hi => by
        have hi' : i < av.length := by
          by_cases g : i < av.length
          · exact g
          · rw [List.getElem?_append_right (by simp; omega)] at hi
            have := List.mem_of_getElem? hi
            rw [List.mem_replicate] at this
            cases this.2
        rw [List.getElem?_append_left (by simpa using hi'), List.getElem?_map, List.getElem?_eq_getElem hi'] at hi
        have hv : av[i] = v := by simpa using hi
        refine ⟨?_, hav v (hv ▸ List.getElem_mem hi')⟩
        rw [hsl]
        simp [List.getElem?_append_left, hi', hv]⟩ (by simp; omega)
    rw [← lg_entry_eq] at hw
    have hh0 : s₁.heap = s.heap := by rw [B.state]; rfl
    obtain ⟨t, a1, o, b1, b2, b3⟩ := hw s₁ hh0 (Stand.of_body B)
    exact ⟨t, o, a1, b1, b2, b3⟩
/-- an exception of class number X flies over the frame at pc -/
def jm_T (Γ : jm_G) (μ : jm_Mt) (d rc rs : Nat) (Q : jm_O → jm_H → Prop) (pc : Nat) (ls : List (Option Value)) (X : Nat) (h : jm_H) : Prop :=
  ∀ (p : Program) (e : Env) (R : Room) (s : State) (m : MethodId) (args : Array Value) (below : List Frame) (meth : Method) (c : Code) (T : State) (locs : List Loc) (cells slots : Nat) (arr : Array Slot) (st : List Value) (a : Addr) (ce : Cell),
    jm_E Γ μ d p R s m args meth c → jm_R Γ s h T.heap → (∀ q ∈ locs, jm_b Γ ≤ q.base) → cells + rc ≤ R.cells → slots + rs ≤ R.slots → jm_L ls arr → ls.length = μ.2.2.1 → Stand p (jm_l Γ) e R s m args below meth c T locs cells slots →
    T.heap[a]? = some ce → ce.vm = .none → s.vm.findClass (jm_xn X) = some ce.cls →
    ∃ t, Steps p.tables e below ((T.setTop (F0 m pc arr st)).pushFrame (.throwing a)) t ∧ jm_Z Γ R.cells R.slots Q s below t
theorem jm_Tout {X : Nat} (hh : μ.2.2.2.2 = []) (k : Q (.inr X) h) : jm_T Γ μ d rc rs Q pc ls X h := by
  intro p e R s m args below meth c T locs cells slots arr st a ce E hR hlo hc hs hl hn S ha hv hf
  obtain ⟨hx, hb, hre, hml, hown, hts, hC, hlk, hnm, htab, -⟩ := id E
  have hout : ∀ x ∈ c.exceptionTable.toList, covers x pc = false := by
    rw [htab, hh]
    intro x hx
    cases hx
  have S' := stand_widen (k := R.cells) (n := R.slots) S (by omega) (by omega)
  obtain ⟨g1, g2, g3, g4, g5⟩ := S'.leaveThrown a (g := F0 m pc arr st) rfl rfl rfl hout hlk
  refine ⟨_, g1, .threw a, g2, g3, ⟨.inr X, h, k, ⟨a, ce, rfl, ha, hv, ?_⟩, ?_⟩, locs, ⟨g4, g5⟩, hlo⟩
  · rw [g4.alike.findClass]
    exact hf
  · exact hR.moved g4.alike
/-- the callee runs, from where it is invoked -/
theorem jm_after {ν : jm_Mt} {d' mc ms : Nat} {av rest : List Value} {Q' : jm_O → jm_H → Prop} (hM : jm_M Γ ν d' av h mc ms Q') (hd' : d' + 1 ≤ d) (hL9 : ν.2.2.1 ≤ 17) (h1 : mc ≤ rc) (h2 : ms ≤ rs) (hrest : rest.length ≤ 4)
    (hret : ∀ v h', Q' (.inl v) h' → jm_W Γ μ d (rc - mc) (rs - ms) Q (pc + 3) ls (v.toList ++ rest) h') (hthr : ∀ X h', Q' (.inr X) h' → jm_T Γ μ d (rc - mc) (rs - ms) Q pc ls X h')
    {p : Program} {e : Env} {R : Room} {s : State} {m : MethodId} {args : Array Value} {below : List Frame} {meth : Method} {c : Code} {U : State} {locs : List Loc} {cells slots : Nat} {arr : Array Slot} {ig : Instr} {mk : MethodId}
    (E : jm_E Γ μ d p R s m args meth c) (hR : jm_R Γ s h U.heap) (hlo : ∀ q ∈ locs, jm_b Γ ≤ q.base) (hc : cells + rc ≤ R.cells) (hs : slots + rs ≤ R.slots) (hl : jm_L ls arr) (hn : ls.length = μ.2.2.1)
    (S : Stand p (jm_l Γ) e R s m args below meth c U locs cells slots) (hdg : decode c.code pc = .ok (ig, 3)) (hnm : s.methodNamed? ν.1 = some mk) (hcw : (jm_cw ν).before args s = true) (hcg : jm_good (jm_cw ν) = true) (hini : (Cond.initialized ν.1.cls).before args s = true) :
    ∃ t, Steps p.tables e below (doInvoke e (U.setTop (F0 m pc arr rest)) [] mk av.toArray).1 t ∧ jm_Z Γ R.cells R.slots Q s below t := by
  obtain ⟨hx, hb, hre, hml, hown, hts, hC, hlk, hnm9, htab, hfr, hlc, hbs⟩ := id E
  have hwU : ∀ w ∈ jm_cw ν :: jm_ws, w.before av.toArray U = true := by
    intro w hw
    rcases List.mem_cons.mp hw with rfl | hw
    · exact jm_word S.warmed hcg hcw
    · exact jm_word S.warmed (List.mem_filter.mp hw).2 (hts w hw)
  have hnU : U.methodNamed? ν.1 = some mk := S.named hnm
  obtain ⟨methY, cY, q1, q2, -, q4, -, -, -, -⟩ := jm_cw_spec hnU (hwU _ List.mem_cons_self)
  have hini' : (Cond.initialized ν.1.cls).before av.toArray U = true := word_at S.warmed (Or.inl (by first | rfl | simp [Cond.onTables, Cond.keeps, Cond.steady])) hini
  have hst : (rest.map fun v => v.category).sum ≤ 2 * rest.length := by
    clear hrest hret
    induction rest with
    | nil => simp
    | cons v r ih =>
      rcases lv_cat v with q | q <;> simp only [List.map_cons, List.sum_cons, List.length_cons, q] <;> omega
  obtain ⟨o, t, T', L, X', hL, e1, e2, ⟨⟨oc, h', hq, hoc, hR'⟩, -⟩, hst9⟩ := jm_back S (free := fun q => jm_b Γ ≤ q) (g := F0 m pc arr rest) (ig := ig) (len := 3) hM (fun st o t hq => hq.2) rfl (by show arr.size = _; rw [hml, ← hn]; exact hl.1) hdg
    (by show 2 * 0 + (rest.map fun v => v.category).sum ≤ 8; omega) hnU q1 q2 (by show d' + 1 ≤ R.frames; omega) (by show 8 + (cY.maxLocals + 11) + 36 * d' ≤ R.locals; rw [q4]; omega) (by show cells + mc ≤ R.cells; omega) (by show slots + ms ≤ R.slots; omega) hwU hini'
    ⟨rfl, jm_C.warm (U := U.calling (F0 m pc arr rest) mk av.toArray) S.warmed hC, hR.moved (U := U.calling (F0 m pc arr rest) mk av.toArray) S.warmed.alike⟩
  have hR2 : jm_R Γ s h' T'.heap := by
    rw [e1]
    refine jm_R.moved ?_ hR'
    rw [← e2]
    exact X'.warmed.alike.symm
  have hlo2 : ∀ q ∈ locs ++ L, jm_b Γ ≤ q.base := by
    intro q hq
    rcases List.mem_append.mp hq with g | g
    · exact hlo q g
    · exact hL q g
  cases oc with
  | inl v =>
    cases hoc
    obtain ⟨t2, g1, g2⟩ := hret v h' hq p e R s m args below meth c T'.heap (locs ++ L) (cells + mc) (slots + ms) arr E hR2 hlo2 (by omega) (by omega) hl hn T' rfl X'
    exact ⟨t2, hst9.trans g1, g2⟩
  | inr Xn =>
    obtain ⟨a, ce, rfl, ha, hv, hf⟩ := hoc
    obtain ⟨t2, g1, g2⟩ := hthr Xn h' hq p e R s m args below meth c T' (locs ++ L) (cells + mc) (slots + ms) arr rest a ce E hR2 hlo2 (by omega) (by omega) hl hn X' (by rw [e1]; exact ha) hv (by rw [← X'.warmed.alike.findClass, e2]; exact hf)
    exact ⟨t2, hst9.trans g1, g2⟩
end
