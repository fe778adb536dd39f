/-! THE CORE: one relation between an abstract heap and the machine's, one judgement for a frame (jm_W), one for a method (jm_M); a call of it that returns or throws. -/
section
/-- an abstract heap: the kind of the cell at an address (class number < 100, or 100 + kind of array, and its length), and the value at (tag, index, address): a field's (class number, field) or an element's (100, index) -/
abbrev jm_H : Type := (Nat → Option (Nat × Nat)) × (Nat → Nat → Nat → Value)
def jm_set (h : jm_H) (t i a : Nat) (v : Value) : jm_H := (h.1, fun t' i' a' => if t' = t ∧ i' = i ∧ a' = a then v else h.2 t' i' a')
def jm_new (h : jm_H) (a : Nat) (k : Nat × Nat) (d : Nat → Value) : jm_H := (fun a' => if a' = a then some k else h.1 a', fun t' i' a' => if a' = a then d i' else h.2 t' i' a')
/-- an outcome: what is returned, or the number of the exception's class -/
abbrev jm_O : Type := Option Value ⊕ Nat
/-- what an invocation leaves: warmer tables; nothing moved but L and at most k new cells of n slots -/
def jm_End (st t : State) (L : List Loc) (k n : Nat) : Prop := st.WarmedH t.vm ∧ st.sameButNew ({ t with vm := st.vm } : State) L k n
end
section
variable {p : Program} {l : Launch} {e : Env} {R : Room} {s : State} {m : MethodId} {args : Array Value} {below : List Frame} {meth : Method} {c : Code} {U : State} {locs : List Loc} {cells slots : Nat}
/-- a callee, from the point where it is invoked: it returns or throws, and the walk stands again -/
theorem jm_back (X : Stand p l e R s m args below meth c U locs cells slots) {y : MethodName} {ws : List Cond} {rm : Room} {P : Array Value → State → Prop} {Qx : Array Value → State → Outcome → State → Prop} {free : Addr → Prop} {mk : MethodId} {a : Array Value} {g : JFrame} {ig : Instr} {len : Nat}
    (hM : MetFree l y (headSpec ws rm) P (fun _ _ _ _ _ => True) Qx)
    (hend : ∀ st o t, Qx a st o t → ∃ L, jm_End st t L rm.cells rm.slots ∧ ∀ q ∈ L, free q.base)
    (hg : g.method = m) (hsize : g.locals.size = c.maxLocals) (hdg : decode c.code g.pc = .ok (ig, len)) (hW : 2 * g.monitorRoom + (g.stack.map fun v => v.category).sum ≤ 8)
    (hn : U.methodNamed? y = some mk) {methY : Method} {cY : Code} (hmY : U.vm.method? mk = some methY) (hcY : methY.code = some cY)
    (hframes : rm.frames + 1 ≤ R.frames) (hlocals : 8 + (cY.maxLocals + 11) + rm.locals ≤ R.locals) (hcells : cells + rm.cells ≤ R.cells) (hslots : slots + rm.slots ≤ R.slots)
    (hws : ∀ w ∈ ws, w.before a U = true) (hini : (Cond.initialized y.cls).before a U = true) (hP : P a (U.calling g mk a)) :
    ∃ (o : Outcome) (t T' : State) (L : List Loc), Stand p l e R s m args below meth c T' (locs ++ L) (cells + rm.cells) (slots + rm.slots) ∧ (∀ q ∈ L, free q.base) ∧ T'.heap = t.heap ∧ T'.vm = t.vm ∧ Qx a (U.calling g mk a) o t ∧
      match o with
      | .returned v => Steps p.tables e below (doInvoke e (U.setTop g) [] mk a).1 (T'.setTop { g with pc := g.pc + len, stack := v.toList ++ g.stack })
      | .threw x => Steps p.tables e below (doInvoke e (U.setTop g) [] mk a).1 ((T'.setTop g).pushFrame (.throwing x)) := by
  obtain ⟨kY, hkY, -⟩ := className_of_methodNamed hn
  have hinitY : kY.init = .initialized := Cond.initialized_spec (findClass_of_methodNamed hn) hkY hini
  have h : At U g.method c below := by rw [hg]; exact X.here
  have happ : (headSpec ws rm).appliesLoose y e.platform (U.calling g mk a) = true :=
    Spec.appliesLoose_calling (g := g) h hdg hn hkY hinitY
      (X.room_calling (g := g) (R' := rm) hsize hmY hcY hframes (by omega) hcells hslots) (atoms_intro hws)
  obtain ⟨mid, hmid⟩ := h.above
  have hfr : (U.setTop g).frames = (.java g :: mid) ++ below := by rw [State.frames_setTop' g h.top, hmid]; rfl
  obtain ⟨o, s₂, hsteps, -, hE, hq⟩ := Steps.callFree hM p X.admits X.cas X.clock (acts := []) hfr happ hP trivial
  have hq' : Qx a (U.calling g mk a) o s₂ := hq
  obtain ⟨L, ⟨hW₂, hsame⟩, hL⟩ := hend _ _ _ hq'
  rw [State.frames_setTop' g h.top, X.tail] at hE
  cases o with
  | threw x =>
    obtain ⟨T', X', -, -, ht⟩ := X.outOfThrown hg hE hW₂ hsame
    refine ⟨.threw x, s₂, T', L, X', hL, ?_, ?_, hq', ?_⟩
    · rw [ht, Stand.throwing_heap]
    · rw [ht, Stand.throwing_vm]
    · show Steps _ _ _ _ _
      rw [← ht]
      exact hsteps
  | returned v =>
    obtain ⟨e2, q2, q3, q4, q5, q6⟩ := hsame
    have e3 : s₂ = ({ (U.calling g mk a).setFrames s₂.frames with heap := s₂.heap, slotsUsed := s₂.slotsUsed } : State).setVm s₂.vm := by
      have : s₂ = ({ s₂ with vm := (U.calling g mk a).vm } : State).setVm s₂.vm := rfl
      rw [e2] at this
      exact this
    obtain ⟨c₂, i₂, len₂, hc₂, hd₂, hf₂⟩ := hE
    have hW' : U.WarmedH s₂.vm := hW₂
    have hcc : c₂ = c := by
      have h1 : s₂.code? g.method = U.code? g.method := by
        rw [State.code?_eq, State.code?_eq, hW'.alike.method?]
      exact Option.some.inj (hc₂.symm.trans (h1.trans h.code))
    subst hcc
    have hlen : len₂ = len := by rw [hdg] at hd₂; cases hd₂; rfl
    subst hlen
    obtain ⟨g₀, hr⟩ := X.frames_eq
    have hs₂ : s₂ = (({ U with heap := s₂.heap, slotsUsed := s₂.slotsUsed } : State).setVm s₂.vm).setTop { g with pc := g.pc + len₂, stack := v.toList ++ g.stack } := by
      have hr' : (({ U with heap := s₂.heap, slotsUsed := s₂.slotsUsed } : State).setVm s₂.vm).frames = .java g₀ :: below := hr
      refine e3.trans ?_
      rw [hf₂, State.calling_eq h.top, State.setFrames_setFrames, State.setTop_of_frames _ hr']
      rfl
    have hsame' : U.sameButNew ({ U with heap := s₂.heap, slotsUsed := s₂.slotsUsed } : State) L rm.cells rm.slots := by
      refine ⟨?_, q2, q3, q4, q5, q6⟩
      obtain ⟨t, ht, -⟩ := State.frames_cons hr
      show ({ U with heap := s₂.heap, slotsUsed := s₂.slotsUsed } : State) = { U.setFrames U.frames with heap := s₂.heap, slotsUsed := s₂.slotsUsed }
      rw [State.setFrames_self ht]
    subst hg
    refine ⟨.returned v, s₂, ({ U with heap := s₂.heap, slotsUsed := s₂.slotsUsed } : State).setVm s₂.vm, L,
      ⟨X.admits, X.cas, X.clock, X.frames, X.room, X.hears, X.method, X.code, (X.here.setHeapUsed s₂.heap s₂.slotsUsed).setVm hW'.alike, X.tail, State.WarmedH.trans X.warmed hW', X.limits, X.bytes, X.same.trans (hsame'.setVm s.vm)⟩, hL, rfl, rfl, hq', ?_⟩
    show Steps p.tables e below _ ((({ U with heap := s₂.heap, slotsUsed := s₂.slotsUsed } : State).setVm s₂.vm).setTop { g with pc := g.pc + len₂, stack := v.toList ++ g.stack })
    rw [← hs₂]
    exact hsteps
end
section
/-- the fixed things: the launch, the heap's size and the heap at the law's entry, the numbers of our classes, the slots of their fields, the numbers of the array classes, the addresses of the constants of Stage -/
abbrev jm_G : Type := Launch × Nat × Heap × (Nat → ClassId) × (Nat → Nat → Nat) × (Nat → ClassId) × (Nat → Nat)
abbrev jm_l (Γ : jm_G) : Launch := Γ.1
abbrev jm_b (Γ : jm_G) : Nat := Γ.2.1
abbrev jm_h0 (Γ : jm_G) : Heap := Γ.2.2.1
abbrev jm_dC (Γ : jm_G) : Nat → ClassId := Γ.2.2.2.1
abbrev jm_dI (Γ : jm_G) : Nat → Nat → Nat := Γ.2.2.2.2.1
abbrev jm_dA (Γ : jm_G) : Nat → ClassId := Γ.2.2.2.2.2.1
abbrev jm_eA (Γ : jm_G) : Nat → Nat := Γ.2.2.2.2.2.2
abbrev jm_D (Γ : jm_G) : va_G := (jm_dC Γ, jm_dI Γ)
/-- a method: its name, bytes, locals, result, handlers -/
abbrev jm_Mt : Type := MethodName × ByteArray × Nat × Option FieldType × List (Nat × Nat × Nat × Nat)
def jm_cw (μ : jm_Mt) : Cond := if μ.2.2.2.2 = [] then .code μ.1 μ.2.1 μ.2.2.1 μ.2.2.2.1 else .codeWith μ.1 μ.2.1 μ.2.2.1 μ.2.2.2.1 μ.2.2.2.2
def jm_tys (Γ : jm_G) : List (ClassId × FieldType) := (List.range 7).map (fun k => (jm_dA Γ k, jm_ty k))
/-- a static field is laid, below b -/
def jm_LS (C n d : String) (b : Nat) (U : State) (H : Heap) : Prop := ∃ (c : ClassId) (k : Class) (i : Nat) (f : Field) (a : Nat) (cell : Cell), U.vm.findClass C = some c ∧ U.fieldFound? C n d = some (c, k, i, f) ∧ f.isStatic = true ∧ k.statics = some a ∧ H[a]? = some cell ∧ cell.vm.isStatics = true ∧ cell.cls = c ∧ f.slot < cell.slots.size ∧ k.staticTypes[f.slot]? = some f.type ∧ a < b
theorem jm_LS.moved {C n d : String} {b : Nat} {u U : State} {H : Heap} (hvm : u.vm.Alike U.vm) (h : jm_LS C n d b u H) : jm_LS C n d b U H := by
  obtain ⟨c, k, i, f, a, cell, h1, h2, h3, h4, h5, h6, h7, h8, h9, h10⟩ := h
  obtain ⟨k', hi', he⟩ := State.fieldFound?_setVm hvm h2
  exact ⟨c, k', i, f, a, cell, by rw [hvm.findClass]; exact h1, hi', h3, by rw [he]; exact h4, h5, h6, h7, h8, by rw [he]; exact h9, h10⟩
theorem jm_LS.word {C n d : String} {b : Nat} {s : State} {H : Heap} {args : Array Value} (h : jm_LS C n d b s H) (hs : ∀ a, a < b → s.heap[a]? = H[a]?) : (Cond.laysStatic C n d).before args s = true := by
  obtain ⟨c, k, i, f, a, cell, h1, h2, h3, h4, h5, h6, h7, h8, h9, h10⟩ := h
  show (Cond.laysStatic C n d).holds args s none s [] = true
  exact Cond.laysStatic_of h1 h2 h3 h4 (by rw [hs a h10]; exact h5) h6 h7 h8 h9
/-- what the tables and the old heap say at every state of the run -/
def jm_C (Γ : jm_G) (U : State) : Prop :=
  va_K (jm_D Γ) jm_cl (jm_tys Γ) U ∧ (∀ i, i < 3 → va_Z jm_en (jm_enm i) jm_ed (.ref (jm_eA Γ i)) (fun q => jm_b Γ ≤ q) U (jm_h0 Γ)) ∧
  (∀ q ∈ jm_strs, ∃ a, vk_R q.1 q.2.1 q.2.2 a U) ∧ va_Zq Bundle.tN "UNASSIGNED_STACK" Bundle.steD (fun q => jm_b Γ ≤ q) U (jm_h0 Γ) ∧ va_Zq Bundle.tN "SUPPRESSED_SENTINEL" Bundle.listD (fun q => jm_b Γ ≤ q) U (jm_h0 Γ) ∧ (∀ X Y, X < 3 → Y < 3 → X ≠ Y → va_Nc (jm_xn X) (jm_xn Y) U) ∧ jm_LS Bundle.tN "UNASSIGNED_STACK" Bundle.steD (jm_b Γ) U (jm_h0 Γ) ∧ jm_LS Bundle.tN "SUPPRESSED_SENTINEL" Bundle.listD (jm_b Γ) U (jm_h0 Γ) ∧ (jm_l Γ).flags = pinnedFlags ++ [noTraceFlag]
def jm_R (Γ : jm_G) (U : State) (h : jm_H) (H : Heap) : Prop :=
  jm_b Γ ≤ H.size ∧ (∀ a, a < jm_b Γ → H[a]? = (jm_h0 Γ)[a]?) ∧ (∀ (a : Nat) (cell : Cell), jm_b Γ ≤ a → H[a]? = some cell → cell.vm.isStatics = false) ∧
  ∀ a k n, h.1 a = some (k, n) →
    (k < 100 → jm_b Γ ≤ a ∧ ∃ r : vw_C, jm_cl[k]? = some r ∧ t_OB a (jm_dC Γ k) r.2.2 (jm_dI Γ k) H (fun j => h.2 k j a)) ∧
    (100 ≤ k → k < 150 → jm_b Γ ≤ a ∧ n < 2 ^ 31 ∧ H[a]? = some (arrV (jm_dA Γ (k - 100)) n (fun i => h.2 100 i a))) ∧
    (150 ≤ k → n < 2 ^ 31 ∧ ∃ xs : Nat → Int32, va_X a n xs U H ∧ ∀ i, i < n → h.2 100 i a = .int (xs i))
def jm_OR (oc : jm_O) (o : Outcome) (t : State) : Prop := match oc with
  | .inl v => o = .returned v
  | .inr X => ∃ (a : Addr) (ce : Cell), o = .threw a ∧ t.heap[a]? = some ce ∧ ce.vm = .none ∧ t.vm.findClass (jm_xn X) = some ce.cls
def jm_Q (Γ : jm_G) (mc ms : Nat) (Q : jm_O → jm_H → Prop) (s : State) (o : Outcome) (t : State) : Prop :=
  (∃ (oc : jm_O) (h' : jm_H), Q oc h' ∧ jm_OR oc o t ∧ jm_R Γ t h' t.heap) ∧ ∃ L, jm_End s t L mc ms ∧ ∀ q ∈ L, jm_b Γ ≤ q.base
def jm_Z (Γ : jm_G) (mc ms : Nat) (Q : jm_O → jm_H → Prop) (s : State) (below : List Frame) : State → Prop := fun t =>
  ∃ o, t.status = .running ∧ Ended t below o ∧ jm_Q Γ mc ms Q s o t
def jm_rm (d mc ms : Nat) : Room := { frames := d, cells := mc, slots := ms, locals := 36 * d }
/-- a method's contract -/
def jm_M (Γ : jm_G) (μ : jm_Mt) (d : Nat) (av : List Value) (h : jm_H) (mc ms : Nat) (Q : jm_O → jm_H → Prop) : Prop :=
  MetFree (jm_l Γ) μ.1 (headSpec (jm_cw μ :: jm_ws) (jm_rm d mc ms)) (fun a U => a = av.toArray ∧ jm_C Γ U ∧ jm_R Γ U h U.heap) (fun _ _ _ _ _ => True) (fun _ s o t => jm_Q Γ mc ms Q s o t)
/-- the locals -/
def jm_L (ls : List (Option Value)) (arr : Array Slot) : Prop := arr.size = ls.length ∧ lv_wf arr ∧ ∀ (i : Nat) (v : Value), ls[i]? = some (some v) → arr[i]? = some (Slot.val v) ∧ v.category = 1
/-- what stays fixed while a frame of the method stands -/
def jm_E (Γ : jm_G) (μ : jm_Mt) (d : Nat) (p : Program) (R : Room) (s : State) (m : MethodId) (args : Array Value) (meth : Method) (c : Code) : Prop :=
  p.tables.exec = Jvm.exec ∧ c.code = μ.2.1 ∧ meth.sig.returnType = μ.2.2.2.1 ∧ c.maxLocals = μ.2.2.1 ∧ s.vm.findClass μ.1.cls = some m.cls ∧ (∀ w ∈ jm_ws, w.before args s = true) ∧ jm_C Γ s ∧ meth.locks = false ∧
  meth.name = μ.1.name ∧ c.exceptionTable.toList = tableOf μ.2.2.2.2 ∧ d ≤ R.frames ∧ 36 * d ≤ R.locals ∧ jm_b Γ ≤ s.heap.size ∧ (∀ a, a < jm_b Γ → s.heap[a]? = (jm_h0 Γ)[a]?) ∧ (∀ (a : Nat) (cell : Cell), jm_b Γ ≤ a → s.heap[a]? = some cell → cell.vm.isStatics = false)
/-- a frame of the method at pc, with these locals and this stack, over the heap h, with room for rc cells of rs slots: it comes to an end with Q -/
def jm_W (Γ : jm_G) (μ : jm_Mt) (d rc rs : Nat) (Q : jm_O → jm_H → Prop) (pc : Nat) (ls : List (Option Value)) (st : List Value) (h : jm_H) : Prop :=
  ∀ (p : Program) (e : Env) (R : Room) (s : State) (m : MethodId) (args : Array Value) (below : List Frame) (meth : Method) (c : Code) (H : Heap) (locs : List Loc) (cells slots : Nat) (arr : Array Slot),
    jm_E Γ μ d p R s m args meth c → jm_R Γ s h H → (∀ q ∈ locs, jm_b Γ ≤ q.base) → cells + rc ≤ R.cells → slots + rs ≤ R.slots → jm_L ls arr → ls.length = μ.2.2.1 →
    W p (jm_l Γ) e R s m args below meth c H locs cells slots (jm_Z Γ R.cells R.slots Q s below) (F0 m pc arr st)
theorem jm_mono {p : Program} {l : Launch} {e : Env} {R : Room} {s : State} {m : MethodId} {args : Array Value} {below : List Frame} {meth : Method} {c : Code} {H : Heap} {locs : List Loc} {cells slots : Nat} {Q Q' : State → Prop} {g : JFrame}
    (h : ∀ t, Q t → Q' t) (k : W p l e R s m args below meth c H locs cells slots Q g) : W p l e R s m args below meth c H locs cells slots Q' g := by
  intro T hT X
  obtain ⟨t, a, b⟩ := k T hT X
  exact ⟨t, a, h t b⟩
theorem jm_R.moved {Γ : jm_G} {u U : State} {h : jm_H} {H : Heap} (hvm : u.vm.Alike U.vm) (hR : jm_R Γ u h H) : jm_R Γ U h H := by
  obtain ⟨h1, h2, h9, h3⟩ := hR
  refine ⟨h1, h2, h9, fun a k n hk => ?_⟩
  obtain ⟨q1, q2, q3⟩ := h3 a k n hk
  refine ⟨q1, q2, fun hk' => ?_⟩
  obtain ⟨r1, xs, r2, r3⟩ := q3 hk'
  exact ⟨r1, xs, r2.moved hvm, r3⟩
theorem jm_Nc.moved {u U : State} {C T : String} (hvm : u.vm.Alike U.vm) (h : va_Nc C T u) : va_Nc C T U := by
  obtain ⟨c, t, h1, h2, h3⟩ := h
  exact ⟨c, t, by rw [hvm.findClass]; exact h1, by rw [hvm.findClass]; exact h2, by rw [hvm.assignable]; exact h3⟩
theorem jm_C.warm {Γ : jm_G} {u U : State} (hW : u.WarmedH U.vm) (hC : jm_C Γ u) : jm_C Γ U := by
  obtain ⟨h1, h2, h3, h4, h5, h7, h8, h9, h6⟩ := hC
  refine ⟨h1.moved hW.alike, fun i hi => (h2 i hi).moved hW.alike, fun q hq => ?_, ?_, ?_, fun X Y hX hY hn => jm_Nc.moved hW.alike (h7 X Y hX hY hn), h8.moved hW.alike, h9.moved hW.alike, h6⟩
  · obtain ⟨a, ha⟩ := h3 q hq
    exact ⟨a, ha.warm hW⟩
  · rcases h4 with h | ⟨t, h⟩
    · exact Or.inl (h.moved hW.alike)
    · exact Or.inr ⟨t, h.moved hW.alike⟩
  · rcases h5 with h | ⟨t, h⟩
    · exact Or.inl (h.moved hW.alike)
    · exact Or.inr ⟨t, h.moved hW.alike⟩
end
