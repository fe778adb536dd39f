/-! 'throw new X("..")': the constructor, then athrow, out of the method -/
section
variable {p : Program} {l : Launch} {e : Env} {R : Room} {s : State} {m : MethodId} {args : Array Value} {below : List Frame} {meth : Method} {c : Code} {T9 : State} {locs : List Loc} {cells slots : Nat}
set_option maxHeartbeats 4000000 in
theorem jm_ctorThrow (X : Stand p l e R s m args below meth c T9 locs cells slots) (hexec : p.tables.exec = Jvm.exec) (htr : e.platform.stackTraces = false) {own cls : String} {names : List String} {ic : Nat}
    (hown : s.vm.findClass own = some m.cls) (hcls : Bundle.fit cls = true) (hnames : ∀ n ∈ names, Bundle.fit n = true) (h : ∀ a ∈ Bundle.ownAtoms own ic cls names, a.before args s = true)
    (hstat : ∀ (q : Addr) (cell : Cell), s.heap[q]? = some cell → cell.vm.isStatics = true → T9.heap[q]? = some cell)
    {a : Addr} {cX : ClassId} {kX : Class} (hfoundX : s.vm.findClass cls = some cX) (hkX : s.vm.classes[cX]? = some kX) (hcell : T9.heap[a]? = some (freshCell cX kX)) (hnew : ∀ (cell : Cell), s.heap[a]? = some cell → cell.vm.isStatics = false)
    {msg : Value} (hmsg : msg.isRef = true) {g : JFrame} (hg : g.method = m) (hsize : g.locals.size = c.maxLocals) (hlocked : g.locked = none) (hentered : g.entered = []) {rest : List Value} (hstack : g.stack = msg :: .ref a :: .ref a :: rest)
    (hd6 : decode c.code g.pc = .ok (.invokespecial ic, 3)) (hd9 : decode c.code (g.pc + 3) = .ok (.athrow, 1)) (hout : ∀ x ∈ c.exceptionTable.toList, covers x (g.pc + 3) = false)
    (hRframes : names.length + 3 < R.frames) (hRlocals : 2 * g.monitorRoom + ((Value.ref a :: rest).map fun v => v.category).sum + (13 * (names.length + 1) + 42) ≤ R.locals) (hlocks : meth.locks = false) :
    ∃ (U : State) (ce : Cell) (L : List Loc), Steps p.tables e below (T9.setTop g) U ∧ U.status = .running ∧ Ended U below (.threw a) ∧ s.WarmedH U.vm ∧ s.sameButNew ({ U with vm := s.vm } : State) (locs ++ L) cells slots ∧ (∀ q ∈ L, q.base = a) ∧
      U.heap[a]? = some ce ∧ U.heap.size = T9.heap.size ∧ (∀ q : Nat, q ≠ a → U.heap[q]? = T9.heap[q]?) ∧ ce.vm = .none ∧ ce.cls = cX := by
  have howns : e.platform.frameOwnsMonitors = true := by rw [X.admits.platform]
  have hfin : e.platform.finalization = false := by rw [X.admits.platform]
  have hpl : e.platform.magicAccessors = ({} : Platform).magicAccessors := by rw [X.admits.platform]
  have a' : ∀ x, x ∈ Bundle.ownAtoms own ic cls names → x.holds args s none s [] = true := fun x hx => h x hx
  obtain ⟨T, Z0, L, -, Y⟩ := ThrowableC.of_atoms (args := args) howns hfin hpl (fun x hx => h x (by simp [Bundle.ownAtoms, hx]))
  obtain ⟨Z, M, LZ, LM, hnZ⟩ := Init0T.ofS_atoms (args := args) hpl L Y (fun x hx => h x (by simp [Bundle.ownAtoms, hx]))
  obtain ⟨P1, Ps, hlen, L1, hL, hP1m, hlink1, hlink⟩ := Bundle.chainS (args := args) hpl hnZ names cls hcls hnames (fun x hx => h x (by simp [Bundle.ownAtoms, hx]))
  have hfound : s.vm.findClass cls = some P1.m.cls := findClass_of_methodNamed hP1m
  cases Option.some.inj (hfoundX.symm.trans hfound)
  obtain ⟨c1, kX', hc1, hk, hord, -, -, hn6⟩ := Cond.instantiable_spec (a' (.instantiable cls 6) (by simp [Bundle.ownAtoms]))
  cases Option.some.inj (hc1.symm.trans hfound)
  cases Option.some.inj (hkX.symm.trans hk)
  have sel : ∀ (z : MethodName) (mz : MethodId), s.methodNamed? z = some mz → (z.cls ≠ "java/lang/invoke/MethodHandle" ∧ z.cls ≠ "java/lang/invoke/VarHandle") → (Cond.selects cls z z).before args s = true → selectMethod e.platform s.vm P1.m.cls mz = .method mz := by
    intro z mz hz hz2 hs
    obtain ⟨c2, r2, m2, q1, q2, q3, q4, -⟩ := Cond.selects_spec hs
    cases Option.some.inj (q1.symm.trans hfound)
    cases Option.some.inj (q2.symm.trans (State.methodFound?_of_named hz hz2))
    cases Option.some.inj (q3.symm.trans hz)
    rw [Launch.admits_selectMethod X.admits]; exact q4
  have hsel0 := sel _ _ Y.fill0 (by decide) (a' (.selects cls Bundle.tFill0 Bundle.tFill0) (by simp [Bundle.ownAtoms]))
  have hselF := sel _ _ Y.fill (by decide) (a' (.selects cls Bundle.tFill Bundle.tFill) (by simp [Bundle.ownAtoms]))
  obtain ⟨cellS0, hcS0, hiss⟩ := Y.statics
  obtain ⟨u0, hu0⟩ := Cond.staticRefV Y.unassigned L.unassignedStatic L.statics hcS0 hiss (a' (.isRef (.static Bundle.tN "UNASSIGNED_STACK" Bundle.steD)) (by simp [Bundle.ownAtoms]))
  obtain ⟨sen, hsen⟩ := Cond.staticRefV Y.sentinel L.sentinelStatic L.statics hcS0 hiss (a' (.isRef (.static Bundle.tN "SUPPRESSED_SENTINEL" Bundle.listD)) (by simp [Bundle.ownAtoms]))
  obtain ⟨ci198, i198, fB, hk198, hg198, ha198, hsB, -, hnB, htB, hffB⟩ := Cond.ownField (t := .object "java/lang/Object") Y.found L.cls (by decide +kernel) (a' (.fieldLink Bundle.tN 198 Bundle.tN "backtrace" "Ljava/lang/Object;") (by simp [Bundle.ownAtoms])) (a' (.lays Bundle.tN Bundle.tN "backtrace" "Ljava/lang/Object;") (by simp [Bundle.ownAtoms])) e.platform hpl
  have hcellS := hstat _ _ hcS0 hiss
  have hknownS : cellS0.vm ≠ .unknown := by
    intro hu
    rw [hu] at hiss
    cases hiss
  have hneS : T.aS ≠ a := by
    intro q
    rw [q] at hcS0
    rw [hnew _ hcS0] at hiss
    cases hiss
  obtain ⟨iM, hffM⟩ := Y.msg
  obtain ⟨tyC, dC, hdC, hdnC⟩ := Cond.laysAt hfound hk Y.cause (a' (.lays cls Bundle.tN "cause" "Ljava/lang/Throwable;") (by simp [Bundle.ownAtoms]))
  obtain ⟨tyS, dS, hdS, hdnS⟩ := Cond.laysAt hfound hk Y.stack (a' (.lays cls Bundle.tN "stackTrace" Bundle.steD) (by simp [Bundle.ownAtoms]))
  obtain ⟨tyP, dP, hdP, hdnP⟩ := Cond.laysAt hfound hk Y.supp (a' (.lays cls Bundle.tN "suppressedExceptions" Bundle.listD) (by simp [Bundle.ownAtoms]))
  obtain ⟨tyM, dM, hdM, hdnM⟩ := Cond.laysAt hfound hk hffM (a' (.lays cls Bundle.tN "detailMessage" "Ljava/lang/String;") (by simp [Bundle.ownAtoms]))
  obtain ⟨tyB, dB, hdB, hdnB⟩ := Cond.laysAt hfound hk hffB (a' (.lays cls Bundle.tN "backtrace" "Ljava/lang/Object;") (by simp [Bundle.ownAtoms]))
  have bC := Cond.laysApart hdB hdC hdnB hdnC (by rw [hnB, Y.causeName]; decide)
  have bS := Cond.laysApart hdB hdS hdnB hdnS (by rw [hnB, Y.stackName]; decide)
  have bP := Cond.laysApart hdB hdP hdnB hdnP (by rw [hnB, Y.suppName]; decide)
  have hskip : SkipFacts T e.platform s (fun u => u) u0 ((preparedCellV T.toThrowableT (freshCell P1.m.cls kX) a u0 sen).withEntry T9.cur) :=
    ⟨{ ci198 := ci198, i198 := i198, fBack := fB }, ⟨hk198, hg198, ha198, hsB⟩, by
      have := fresh_default (c := P1.m.cls) tyB
      rw [htB] at this
      simpa [preparedCellV, Cell.setSlot, Cell.withEntry, Array.getElem?_setIfInBounds, bC, bS, bP, bC.symm, bS.symm, bP.symm, defaultValue] using this, fun _ _ => rfl⟩
  obtain ⟨tm, methC, cdC, kC, vm₁, hnC, -, -, -, -, -, -, -, hW₁, st1⟩ := Steps.initColdS (tb := p.tables) (e := e) (below := below) (s := s) (U := T9) X.here hexec X.warmed hpl hown (t := Bundle.initS cls) rfl rfl (Bundle.fit_spec hcls).2
    (a' (.methodLink own ic (Bundle.initS cls)) (by simp [Bundle.ownAtoms])) (h (.instanceMethod (Bundle.initS cls)) (by cases names <;> simp [Bundle.ownAtoms, Bundle.chainSAtoms, Bundle.passSAtoms])) (bytes := Bundle.six) (maxL := 2) (h (.code (Bundle.initS cls) Bundle.six 2 none) (by cases names <;> simp [Bundle.ownAtoms, Bundle.chainSAtoms, Bundle.passSAtoms]))
    (f := g) hg (a := a) (msg := msg) (rest := .ref a :: rest) hstack hd6
  cases Option.some.inj (hnC.symm.trans hP1m)
  have X₁ := X.noted hW₁
  obtain ⟨vm₂, X₂, st2⟩ := X₁.ctorMessageOffV hexec (g := { g with stack := .ref a :: rest }) hg hsize T L Z LZ M LM (P1 :: Ps)
    (fun P hP => by rcases List.mem_cons.mp hP with rfl | hP; exact L1; exact hL P hP) ⟨hlink1, hlink⟩ (u0 := u0) (sen := sen) (self := a) hmsg (cell := freshCell P1.m.cls kX) (cellS := cellS0)
    hcell (fun _ => by simp) (by simp) rfl rfl hsel0 hselF hcellS hneS hknownS hu0 hsen
    (Takes.of_laid hk hord tyC (by rw [Y.causeType]; rfl)) (Takes.of_laid hk hord tyS (by rw [Y.stackType]; exact fits_refV_array _ u0)) (Takes.of_laid hk hord tyP (by rw [Y.suppType]; exact fits_refV_object _ sen))
    (Takes.of_laid hk hord tyM (by rw [Y.msgType]; exact fits_refV_object _ ⟨msg, hmsg⟩)) Y.objLocals hskip htr [] hd6
    (by simp only [List.length_cons, hlen]; omega) (by simp only [List.length_cons, hlen]; exact hRlocals)
  obtain ⟨hwalk, hrun, hended, hWU, hsame⟩ := X₂.athrowLeaves hexec (g := { g with stack := .ref a :: rest, pc := g.pc + 3 }) hg hlocked hentered hout (a := a) (rest := rest) rfl hd9 hlocks
  have hlt : a < ((T9.setVm vm₁).setVm vm₂).heap.size := (Array.getElem?_eq_some_iff.mp hcell).1
  have hU := heapAt_setCell_self (s := (T9.setVm vm₁).setVm vm₂) (plainBareV T.toThrowableT (freshCell P1.m.cls kX) a u0 sen msg) hlt
  refine ⟨_, _, _, st1 _ (fun acts => ?_), hrun, hended, hWU, hsame, ?_, hU, ?_, ?_, rfl, rfl⟩
  · rw [doInvoke_state]
    exact st2 _ hwalk
  · intro q hq
    simp only [List.mem_cons, List.not_mem_nil, or_false] at hq
    rcases hq with rfl | rfl | rfl | rfl | rfl <;> rfl
  · exact size_setCell _ _ _
  · intro q hq
    exact heapAt_setCell_ne _ (Ne.symm hq)
end
section
variable {Γ : jm_G} {μ : jm_Mt} {d rc rs : Nat} {Q : jm_O → jm_H → Prop} {pc : Nat} {ls : List (Option Value)} {st : List Value} {h : jm_H}
theorem jm_isRef {C n d9 : String} {b : Nat} {s : State} {H0 : Heap} {args : Array Value} (hZ : va_Zq C n d9 (fun q => b ≤ q) s H0) (hs : ∀ a, a < b → s.heap[a]? = H0[a]?) : (Cond.isRef (.static C n d9)).before args s = true := by
  rcases hZ with hZ | ⟨t, hZ⟩ <;>
  · obtain ⟨cf, kf, fi, f, a, cell, h1, h2, h3, h4, h5, h6, h7, h8⟩ := hZ
    have h9 : s.heap[a]? = some cell := by rw [hs a (Nat.not_le.mp h8)]; exact h5
    simp [Cond.before, Cond.holds, Cond.value, Term.eval, State.fieldNamed?, h1, h2, h4, h9, h6, h7]
/-- the words of 'throw new cls("..")' in the class own: the pool's entries of the class and of its constructor; the classes above it -/
def jm_XW (own cls : String) (idx ic : Nat) (names : List String) : Prop :=
  Cond.classLink own idx cls ∈ jm_ws ∧ Cond.instantiable cls 6 ∈ jm_ws ∧ Cond.initialized cls ∈ jm_ws ∧ Bundle.fit cls = true ∧ (∀ n ∈ names, Bundle.fit n = true) ∧
  ∀ w ∈ Bundle.ownAtoms own ic cls names, w ∈ jm_ws ∨ w = .isRef (.static Bundle.tN "UNASSIGNED_STACK" Bundle.steD) ∨ w = .isRef (.static Bundle.tN "SUPPRESSED_SENTINEL" Bundle.listD) ∨ w = .laysStatic Bundle.tN "UNASSIGNED_STACK" Bundle.steD ∨ w = .laysStatic Bundle.tN "SUPPRESSED_SENTINEL" Bundle.listD
set_option maxHeartbeats 4000000 in
theorem jm_throw {idx ids ic X : Nat} {tx : String} {names : List String} (hd0 : decode μ.2.1 pc = .ok (.new idx, 3)) (hd3 : decode μ.2.1 (pc + 3) = .ok (.dup, 1)) (hd4 : decode μ.2.1 (pc + 3 + 1) = .ok (.ldc ids, 2)) (hd6 : decode μ.2.1 (pc + 3 + 1 + 2) = .ok (.invokespecial ic, 3)) (hd9 : decode μ.2.1 (pc + 3 + 1 + 2 + 3) = .ok (.athrow, 1))
    (hw : jm_XW μ.1.cls (jm_xn X) idx ic names) (htx : (μ.1.cls, ids, tx) ∈ jm_strs) (hh : μ.2.2.2.2 = []) (h1 : 1 ≤ rc) (h2 : 6 ≤ rs) (hdd : names.length + 3 < d) (hnl : names.length ≤ 4) (hst : st.length ≤ 4) (k : Q (.inr X) h) : jm_W Γ μ d rc rs Q pc ls st h := by
  intro p e R s m args below meth c H locs cells slots arr E hR hlo hc hs hl hn
  obtain ⟨hx, hb, hre, hml, hown, hts, hC, hlk, hnm9, htab, hfr, hlc, hbs, hold, hns⟩ := id E
  obtain ⟨w1, w2, w3, w4, w5, w6⟩ := hw
  obtain ⟨-, -, hstr, hz1, hz2, -, hz3, hz4, hfl⟩ := hC
  obtain ⟨sa, hsa⟩ := hstr _ htx
  have hout : ∀ q, ∀ x ∈ c.exceptionTable.toList, covers x q = false := by
    rw [htab, hh]
    intro q x hx
    cases hx
  have hst2 : (st.map fun v => v.category).sum ≤ 2 * st.length := by
    clear hst k
    induction st with
    | nil => simp
    | cons v r ih =>
      rcases lv_cat v with q | q <;> simp only [List.map_cons, List.sum_cons, List.length_cons, q] <;> omega
  refine W.newc (n := 6) hx hb hown (hts _ w1) (hts _ w2) (hts _ w3) rfl hd0 (by omega) (by omega) fun cC kC f1 f2 f3 f4 => ?_
  refine lv_dup hx hb hd3 rfl ?_
  refine va_ldcS hx hb hown hsa hd4 ?_
  intro T hT S
  have hHs : T.heap.size = H.size + 1 := by rw [hT, Array.size_push]
  have hHn : T.heap[H.size]? = some (freshCell cC kC) := by rw [hT, Array.getElem?_push_size]
  have hHo : ∀ q : Nat, q < H.size → T.heap[q]? = H[q]? := fun q hq => by rw [hT, Array.getElem?_push, if_neg (Nat.ne_of_lt hq)]
  have S' := stand_widen (k := R.cells) (n := R.slots) S (by omega) (by omega)
  obtain ⟨U, ce, L, g1, g2, g3, g4, g5, g6, g7, g8, g9, g10, g11⟩ := jm_ctorThrow S' hx (Launch.traces_off hfl S.admits) hown w4 w5
    (fun w hw => by
      rcases w6 w hw with q | rfl | rfl | rfl | rfl
      · exact hts w q
      · exact jm_isRef hz1 hold
      · exact jm_isRef hz2 hold
      · exact hz3.word hold
      · exact hz4.word hold)
    (fun q cell hq hi => by
      have hqb : q < jm_b Γ := by
        rcases Nat.lt_or_ge q (jm_b Γ) with z | z
        · exact z
        · rw [hns q cell z hq] at hi
          cases hi
      rw [hHo q (Nat.lt_of_lt_of_le hqb hR.1), hR.2.1 q hqb, ← hold q hqb]
      exact hq)
    f1 f2 hHn (fun cell hq => hns _ cell hR.1 hq) (msg := .ref sa) rfl (g := F0 m (pc + 3 + 1 + 2) arr (.ref sa :: .ref H.size :: .ref H.size :: st)) rfl (by show arr.size = _; rw [hml, ← hn]; exact hl.1) rfl rfl (rest := st) rfl (by rw [hb]; exact hd6) (by rw [hb]; exact hd9) (hout _) (by omega)
    (by show 2 * 0 + (1 + (st.map fun v => v.category).sum) + _ ≤ R.locals; omega) hlk
  refine ⟨U, g1, .threw H.size, g2, g3, ⟨.inr X, h, k, ⟨H.size, ce, rfl, g7, g10, ?_⟩, ?_⟩, locs ++ L, ⟨g4, g5⟩, fun q hq => ?_⟩
  · rw [g4.alike.findClass, g11]
    exact f1
  · refine jm_R.moved g4.alike ?_
    obtain ⟨b1, b2, b3, b4⟩ := hR
    have hlt : ∀ (a : Nat), a < H.size → U.heap[a]? = H[a]? := fun a ha => (g9 a (Nat.ne_of_lt ha)).trans (hHo a ha)
    refine ⟨by omega, fun a ha => (hlt a (by omega)).trans (b2 a ha), fun a cell ha hcell => ?_, fun a kk n hk => ?_⟩
    · by_cases z : a = H.size
      · subst z
        cases hcell.symm.trans g7
        rw [g10]
        rfl
      · have z2 : a < U.heap.size := (Array.getElem?_eq_some_iff.mp hcell).1
        rw [hlt a (by omega)] at hcell
        exact b3 a cell ha hcell
    · obtain ⟨q1, q2, q3⟩ := b4 a kk n hk
      refine ⟨fun z => ?_, fun z1 z2 => ?_, fun z => ?_⟩
      · obtain ⟨c1, r, c2, c3⟩ := q1 z
        refine ⟨c1, r, c2, c3.kept (hlt a ?_)⟩
        obtain ⟨cell, c4, -⟩ := c3
        exact (Array.getElem?_eq_some_iff.mp c4).1
      · obtain ⟨c1, c2, c3⟩ := q2 z1 z2
        exact ⟨c1, c2, (hlt a (Array.getElem?_eq_some_iff.mp c3).1).trans c3⟩
      · obtain ⟨c1, xs, c2, c3⟩ := q3 z
        refine ⟨c1, xs, c2.kept (hlt a ?_), c3⟩
        obtain ⟨scr, c4, -⟩ := c2
        exact (Array.getElem?_eq_some_iff.mp c4).1
  · rcases List.mem_append.mp hq with z | z
    · exact hlo q z
    · rw [g6 q z]
      exact hR.1
end
