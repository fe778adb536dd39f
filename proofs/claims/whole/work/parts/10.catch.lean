/-! An exception is caught in the frame: the search resolves the catch types, cold or warm -/
section
variable {e : Env} {f : JFrame} {a : Addr}
theorem jm_go_cold {E : CtlPost} {d : Bool} {acts : List Action} {s : State} {Q : Handler → Pre} {x : ExceptionTableEntry} {t : List ExceptionTableEntry} {c : ClassId} {cell : Cell} (hx : covers x f.pc = true) (h0 : x.catchType ≠ 0)
    (hcl : s.vm.ClassLinks e.platform f.method.cls x.catchType c) (hcell : s.heap[a]? = some cell) (hobj : ∀ k, cell.vm ≠ .statics k)
    (hk : ∃ k, (s.vm.noted f.method.cls x.catchType (.cls c)).classes[cell.cls]? = some k) (hc : ∃ k, (s.vm.noted f.method.cls x.catchType (.cls c)).classes[c]? = some k) :
    wp (findHandler.go f a (x :: t)) Q E e d acts s ↔
      if (s.vm.noted f.method.cls x.catchType (.cls c)).assignable cell.cls c = true then Q (.found x.handlerPc) d acts (s.setVm (s.vm.noted f.method.cls x.catchType (.cls c))) else wp (findHandler.go f a t) Q E e d acts (s.setVm (s.vm.noted f.method.cls x.catchType (.cls c))) := by
  obtain ⟨ha, ht⟩ := (resolveClass_links e.toSetting hcl).op (op := VmOp.resolveClass f.method.cls x.catchType) rfl
  have hsz : (s.vm.noted f.method.cls x.catchType (.cls c)).classes.size ≤ s.vm.classes.size := by no_record
  simp only [covers] at hx
  generalize hvm : s.vm.noted f.method.cls x.catchType (.cls c) = vm' at ha ht hsz hk hc ⊢
  cases hfit : vm'.assignable cell.cls c <;>
    simp [findHandler.go, hx, h0, ha, ht, hsz, hcell, hobj, hk, hc, hfit, VmOp.dirties, VmOp.acts]
theorem jm_stepCatch {s : State} {r : List Frame} {pc : Nat} {vm' : Vm} (hfind : ∀ (Q : Handler → Pre) (E : CtlPost) (d : Bool) (acts : List Action), wp (findHandler f a) Q E e d acts s ↔ Q (.found pc) d acts (s.setVm vm')) :
    (stepThrowing e s a (.java f :: r)).Is ((s.setVm vm').setFrames (.java { f with pc := pc, stack := [.ref a] } :: r)) [] := by
  simp only [stepThrowing, searchFrame, vmDo]
  generalize hr : Sem.go _ e false [] s = res
  obtain ⟨as, rfl, ha⟩ := Sem.eq_ok_of hr (a := Handler.found pc) (s' := s.setVm vm') (acts' := []) (by simp [hfind _ _ _ _])
  exact ⟨rfl, ha⟩
end
section
variable {p : Program} {l : Launch} {e : Env} {R : Room} {s : State} {m : MethodId} {args : Array Value} {below : List Frame} {meth : Method} {c : Code} {T : State} {locs : List Loc} {cells slots : Nat}
theorem jm_caught (X : Stand p l e R s m args below meth c T locs cells slots) {a : Addr} {g : JFrame} (hg : g.method = m) {pc : Nat} {vm' : Vm}
    (hfind : ∀ (Q : Handler → Pre) (E : CtlPost) (d : Bool) (acts : List Action), wp (findHandler g a) Q E e d acts ((T.setTop g).pushFrame (.throwing a)) ↔ Q (.found pc) d acts (((T.setTop g).pushFrame (.throwing a)).setVm vm')) {target : State}
    (hrest : Steps p.tables e below ((T.setVm vm').setTop { g with pc := pc, stack := [.ref a] }) target) : Steps p.tables e below ((T.setTop g).pushFrame (.throwing a)) target := by
  have h : At T g.method c below := by rw [hg]; exact X.here
  obtain ⟨hgo, hw⟩ := h.throwing a
  refine Steps.head hgo hw ?_
  rw [stepThread_throwing (frames_entered h.top _), (jm_stepCatch (s := (T.setTop g).pushFrame (.throwing a)) hfind).1]
  obtain ⟨g₀, hr⟩ := X.frames_eq
  have hr' : (T.setVm vm').frames = .java g₀ :: below := hr
  rw [State.setTop_of_frames _ hr'] at hrest
  have e1 : (((T.setTop g).pushFrame (.throwing a)).setVm vm').setFrames (.java { g with pc := pc, stack := [.ref a] } :: T.frames.tail) = (T.setVm vm').setFrames (.java { g with pc := pc, stack := [.ref a] } :: below) := by
    rw [State.pushFrame, State.setTop_of_frames _ hr, State.setFrames_setFrames, X.tail]
    show ((T.setFrames _).setVm vm').setFrames _ = _
    rw [show (T.setFrames (Frame.throwing a :: (T.setFrames (.java g :: below)).frames)).setVm vm' = (T.setVm vm').setFrames (Frame.throwing a :: (T.setFrames (.java g :: below)).frames) from rfl, State.setFrames_setFrames]
  rw [e1]
  exact hrest
/-- the search through a list whose entries all cover the pc and name classes: those that aren't the exception's are passed, the first that is takes it -/
theorem jm_search {u : State} {g : JFrame} {a : Addr} {cell : Cell} {own xn : String} {cX : ClassId} (hW0 : s.WarmedH u.vm) (hpl : e.platform.magicAccessors = ({} : Platform).magicAccessors) (hown : s.vm.findClass own = some g.method.cls) (hcell : u.heap[a]? = some cell) (hvm : cell.vm = .none) (hcX : s.vm.findClass xn = some cell.cls) (cat : Nat → String) :
    ∀ (L : List (Nat × Nat × Nat × Nat)) (hp : Nat) (v : Vm), s.WarmedH v → (∀ q ∈ L, q.1 ≤ g.pc ∧ g.pc < q.2.1 ∧ q.2.2.2 ≠ 0 ∧ (Cond.classLink own q.2.2.2 (cat q.2.2.2)).before args s = true ∧ (cat q.2.2.2 = xn ∨ va_Nc xn (cat q.2.2.2) s)) →
      (L.find? (fun q => cat q.2.2.2 == xn)).map (fun q => q.2.2.1) = some hp →
      ∃ v', s.WarmedH v' ∧ ∀ (Q : Handler → Pre) (E : CtlPost) (d : Bool) (acts : List Action), wp (findHandler.go g a (tableOf L)) Q E e d acts (u.setVm v) ↔ Q (.found hp) d acts (u.setVm v') := by
  intro L
  induction L with
  | nil => intro hp v _ _ h; cases h
  | cons x t ih =>
    intro hp v hv hall hfind
    obtain ⟨c1, c2, c3, c4, c5⟩ := hall x List.mem_cons_self
    obtain ⟨c', hc', hcl⟩ := Cond.classLink_spec hown c4 e.platform hpl
    obtain ⟨dk, _, _, kt, hd, _, _, _, _, hkt, _, hopen⟩ := hcl.here
    have hcl₀ := hv.classLinks hcl
    have hW' : s.WarmedH (v.noted g.method.cls x.2.2.2 (.cls c')) := hv.noted hd hopen (State.rightAt_cls hcl)
    obtain ⟨ks, hks, -⟩ := Vm.findClass_spec hcX
    obtain ⟨ks', hks', -⟩ := hW'.alike.2.2 _ _ hks
    obtain ⟨kt', hkt', -⟩ := hW'.alike.2.2 _ _ hkt
    have hgo : ∀ (Q : Handler → Pre) (E : CtlPost) (d : Bool) (acts : List Action), _ := fun Q E d acts => jm_go_cold (e := e) (f := g) (a := a) (E := E) (d := d) (acts := acts) (s := u.setVm v) (Q := Q) (x := ⟨x.1, x.2.1, x.2.2.1, x.2.2.2⟩) (t := tableOf t) (c := c') (cell := cell) (by simp [covers, c1, c2]) c3 hcl₀ hcell (fun k h => by rw [hvm] at h; cases h) ⟨ks', hks'⟩ ⟨kt', hkt'⟩
    by_cases hq : cat x.2.2.2 = xn
    · have hcc : c' = cell.cls := by rw [hq] at hc'; exact Option.some.inj (hc'.symm.trans hcX)
      have hp' : x.2.2.1 = hp := by
        rw [List.find?_cons_of_pos (by simp [hq])] at hfind
        exact Option.some.inj hfind
      refine ⟨_, hW', fun Q E d acts => ?_⟩
      have h9 := hgo Q E d acts
      rw [if_pos (by rw [hcc]; exact va_asg _ _)] at h9
      rw [← hp']
      exact h9
    · obtain ⟨c0, t0, f1, f2, f3⟩ := c5.resolve_left hq
      cases Option.some.inj (f1.symm.trans hcX)
      cases Option.some.inj (f2.symm.trans hc')
      rw [List.find?_cons_of_neg (by simp [hq])] at hfind
      obtain ⟨v', g1, g2⟩ := ih hp _ hW' (fun q hq => hall q (List.mem_cons_of_mem _ hq)) hfind
      refine ⟨v', g1, fun Q E d acts => ?_⟩
      have h9 := hgo Q E d acts
      rw [if_neg (by show ¬ (v.noted g.method.cls x.2.2.2 (.cls c')).assignable _ _ = true; rw [hW'.alike.assignable, f3]; decide)] at h9
      exact h9.trans (g2 Q E d acts)
end
