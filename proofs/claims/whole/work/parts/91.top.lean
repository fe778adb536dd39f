/-! THE TOP: what holds at the law's entry; the claim. Written by wip/whole/gen/p91.py -/
/-! THE CLAIM OUT OF ONE WALK OF THE LAW'S BODY. Your part is whole_start (and what it stands on); all else here is the same for every law, but numbers. -/
def R_law : String := "BargainTreeLaw"
def lw_P (b : Addr) (xs : List Int32) (args : Array Value) (s : State) : Prop := args = #[.ref b] ∧ s.IntsAt b xs ∧ xs.length ≤ 3072 ∧ (Jvm.Cond.and given_1 narrow_1).before args s = true
def lw_Q (_ : Array Value) (s : State) (o : Outcome) (t : State) : Prop := o = .returned (some (.int 1)) ∧ Framed s o t [] room_1.cells room_1.slots
def lw_Z (below : List Frame) (a : Array Value) (s : State) : State → Prop := fun t => ∃ o, t.status = .running ∧ Ended t below o ∧ lw_Q a s o t
/-- what holds at the law's entry: the machine, the code, the tables' words (any of lw_tbl by 'hts w (by decide +kernel)'), the script of L ints xs at the cell b, what the Statement gives of the start (any of its parts by flat_of_before) -/
def lw_At (p : Program) (s : State) (m : MethodId) (meth : Method) (c : Code) (b L : Nat) (xs : Nat → Int32) : Prop :=
  p.tables.exec = Jvm.exec ∧ c.code = code ∧ meth.sig.returnType = ret ∧ c.maxLocals = 7 ∧ s.vm.findClass R_law = some m.cls ∧ (∀ w ∈ lw_tbl, w.before #[Value.ref b] s = true) ∧ va_X b L xs s s.heap ∧ b < s.heap.size ∧ meth.locks = false ∧ (Jvm.Cond.and given_1 narrow_1).before #[Value.ref b] s = true
section
variable {args : Array Value} {s : State}
theorem tw_xNEW : Cond.exactly (.static "BargainTree$Stage" "NEW" "LBargainTree$Stage;") "BargainTree$Stage" ∈ flatC (Jvm.Cond.and given_1 narrow_1) := by decide +kernel
theorem tw_xWAITS : Cond.exactly (.static "BargainTree$Stage" "WAITS" "LBargainTree$Stage;") "BargainTree$Stage" ∈ flatC (Jvm.Cond.and given_1 narrow_1) := by decide +kernel
theorem tw_xTHROUGH : Cond.exactly (.static "BargainTree$Stage" "THROUGH" "LBargainTree$Stage;") "BargainTree$Stage" ∈ flatC (Jvm.Cond.and given_1 narrow_1) := by decide +kernel
theorem tw_nTHROUGHNEW : Cond.not (.eq (.static "BargainTree$Stage" "THROUGH" "LBargainTree$Stage;") (.static "BargainTree$Stage" "NEW" "LBargainTree$Stage;")) ∈ flatC (Jvm.Cond.and given_1 narrow_1) := by decide +kernel
theorem tw_nTHROUGHWAITS : Cond.not (.eq (.static "BargainTree$Stage" "THROUGH" "LBargainTree$Stage;") (.static "BargainTree$Stage" "WAITS" "LBargainTree$Stage;")) ∈ flatC (Jvm.Cond.and given_1 narrow_1) := by decide +kernel
theorem tw_nNEWWAITS : Cond.not (.eq (.static "BargainTree$Stage" "NEW" "LBargainTree$Stage;") (.static "BargainTree$Stage" "WAITS" "LBargainTree$Stage;")) ∈ flatC (Jvm.Cond.and given_1 narrow_1) := by decide +kernel
theorem tw_rU : Cond.isRef (.static "java/lang/Throwable" "UNASSIGNED_STACK" "[Ljava/lang/StackTraceElement;") ∈ flatC (Jvm.Cond.and given_1 narrow_1) := by decide +kernel
theorem tw_rS : Cond.isRef (.static "java/lang/Throwable" "SUPPRESSED_SENTINEL" "Ljava/util/List;") ∈ flatC (Jvm.Cond.and given_1 narrow_1) := by decide +kernel
theorem tw_c01 : Cond.not (.castable "java/lang/IllegalArgumentException" "java/lang/IllegalStateException") ∈ flatC (Jvm.Cond.and given_1 narrow_1) := by decide +kernel
theorem tw_c02 : Cond.not (.castable "java/lang/IllegalArgumentException" "java/lang/IndexOutOfBoundsException") ∈ flatC (Jvm.Cond.and given_1 narrow_1) := by decide +kernel
theorem tw_c10 : Cond.not (.castable "java/lang/IllegalStateException" "java/lang/IllegalArgumentException") ∈ flatC (Jvm.Cond.and given_1 narrow_1) := by decide +kernel
theorem tw_c12 : Cond.not (.castable "java/lang/IllegalStateException" "java/lang/IndexOutOfBoundsException") ∈ flatC (Jvm.Cond.and given_1 narrow_1) := by decide +kernel
theorem tw_c20 : Cond.not (.castable "java/lang/IndexOutOfBoundsException" "java/lang/IllegalArgumentException") ∈ flatC (Jvm.Cond.and given_1 narrow_1) := by decide +kernel
theorem tw_c21 : Cond.not (.castable "java/lang/IndexOutOfBoundsException" "java/lang/IllegalStateException") ∈ flatC (Jvm.Cond.and given_1 narrow_1) := by decide +kernel
theorem tw_s37 : Cond.exactly (.string "BargainTree" 37) "java/lang/String" ∈ flatC (Jvm.Cond.and given_1 narrow_1) := by decide +kernel
theorem tw_s48 : Cond.exactly (.string "BargainTree" 48) "java/lang/String" ∈ flatC (Jvm.Cond.and given_1 narrow_1) := by decide +kernel
theorem tw_s62 : Cond.exactly (.string "BargainTree" 62) "java/lang/String" ∈ flatC (Jvm.Cond.and given_1 narrow_1) := by decide +kernel
theorem tw_s64 : Cond.exactly (.string "BargainTree" 64) "java/lang/String" ∈ flatC (Jvm.Cond.and given_1 narrow_1) := by decide +kernel
theorem tw_s72 : Cond.exactly (.string "BargainTree" 72) "java/lang/String" ∈ flatC (Jvm.Cond.and given_1 narrow_1) := by decide +kernel
theorem tw_s81 : Cond.exactly (.string "BargainTree" 81) "java/lang/String" ∈ flatC (Jvm.Cond.and given_1 narrow_1) := by decide +kernel
theorem tw_s100 : Cond.exactly (.string "BargainTree" 100) "java/lang/String" ∈ flatC (Jvm.Cond.and given_1 narrow_1) := by decide +kernel
theorem tw_s109 : Cond.exactly (.string "BargainTree" 109) "java/lang/String" ∈ flatC (Jvm.Cond.and given_1 narrow_1) := by decide +kernel
theorem tw_s129 : Cond.exactly (.string "BargainTree" 129) "java/lang/String" ∈ flatC (Jvm.Cond.and given_1 narrow_1) := by decide +kernel
theorem tw_s136 : Cond.exactly (.string "BargainTree" 136) "java/lang/String" ∈ flatC (Jvm.Cond.and given_1 narrow_1) := by decide +kernel
theorem tw_s142 : Cond.exactly (.string "BargainTree" 142) "java/lang/String" ∈ flatC (Jvm.Cond.and given_1 narrow_1) := by decide +kernel
theorem tw_s172 : Cond.exactly (.string "BargainTree" 172) "java/lang/String" ∈ flatC (Jvm.Cond.and given_1 narrow_1) := by decide +kernel
theorem tw_s174 : Cond.exactly (.string "BargainTree" 174) "java/lang/String" ∈ flatC (Jvm.Cond.and given_1 narrow_1) := by decide +kernel
theorem tw_s210 : Cond.exactly (.string "BargainTree" 210) "java/lang/String" ∈ flatC (Jvm.Cond.and given_1 narrow_1) := by decide +kernel
theorem top_LS {C n d : String} (h : (Cond.laysStatic C n d).before args s = true) : jm_LS C n d s.heap.size s s.heap := by
  obtain ⟨c, k, i, f, a, cell, h1, h2, h3, h4, h5, h6, h7, h8, h9⟩ := Cond.laysStatic_spec h
  exact ⟨c, k, i, f, a, cell, h1, h2, h3, h4, h5, h6, h7, h8, h9, (Array.getElem?_eq_some_iff.mp h5).1⟩
theorem top_C {l : Launch} (hfl : l.flags = flags0) (hts : ∀ w ∈ lw_tbl, w.before args s = true) (hgv : (Jvm.Cond.and given_1 narrow_1).before args s = true) : ∃ Γ : jm_G, jm_l Γ = l ∧ jm_b Γ = s.heap.size ∧ jm_h0 Γ = s.heap ∧ jm_C Γ s ∧ eInj Γ := by
  have hs := flat_of_before _ hgv
  have hj : ∀ w ∈ jm_ws, w.before args s = true := fun w hw => hts w (List.mem_filter.mp hw).1
  have hcl : ∀ c : Nat, ∃ p : ClassId × (Nat → Nat), ∀ q : vw_C, jm_cl[c]? = some q → u_Kn s q.1 q.2.1 q.2.2 p.1 p.2 := fun c => by
    match c with
    | 0 =>
      obtain ⟨cC, iS, h⟩ := u_known (n := 9) hj (jm_clok 0 _ _ _ rfl).1 (hj _ n_B)
      exact ⟨(cC, iS), fun q hq => by cases hq; exact h⟩
    | 1 =>
      obtain ⟨cC, iS, h⟩ := u_known (n := 18) hj (jm_clok 1 _ _ _ rfl).1 (hj _ n_A)
      exact ⟨(cC, iS), fun q hq => by cases hq; exact h⟩
    | 2 =>
      obtain ⟨cC, iS, h⟩ := u_known (n := 3) hj (jm_clok 2 _ _ _ rfl).1 (hj _ n_P)
      exact ⟨(cC, iS), fun q hq => by cases hq; exact h⟩
    | 3 =>
      obtain ⟨cC, iS, h⟩ := u_known (n := 3) hj (jm_clok 3 _ _ _ rfl).1 (hj _ n_C)
      exact ⟨(cC, iS), fun q hq => by cases hq; exact h⟩
    | 4 =>
      obtain ⟨cC, iS, h⟩ := u_known (n := 3) hj (jm_clok 4 _ _ _ rfl).1 (hj _ n_Q)
      exact ⟨(cC, iS), fun q hq => by cases hq; exact h⟩
    | 5 =>
      obtain ⟨cC, iS, h⟩ := u_known (n := 5) hj (jm_clok 5 _ _ _ rfl).1 (hj _ n_L)
      exact ⟨(cC, iS), fun q hq => by cases hq; exact h⟩
    | 6 =>
      obtain ⟨cC, iS, h⟩ := u_known (n := 42) hj (jm_clok 6 _ _ _ rfl).1 (hj _ n_M)
      exact ⟨(cC, iS), fun q hq => by cases hq; exact h⟩
    | k + 7 => exact ⟨(0, fun _ => 0), fun q hq => by cases hq⟩
  have har : ∀ k : Nat, ∃ cA : ClassId, k < 7 → ArrOfT s cA (jm_ty k) ∧ va_RA s cA (jm_ty k) := fun k => by
    match k with
    | 0 =>
      obtain ⟨c, k, comp, h1, h2, h3⟩ := Cond.arrayClass_spec (hj _ ac_int)
      exact ⟨c, fun _ => ⟨fun n z => ⟨(fun k e => by cases e), k, h2, comp, h3⟩, h1⟩⟩
    | 1 =>
      obtain ⟨c, k, comp, h1, h2, h3⟩ := Cond.arrayClass_spec (hj _ ac_boolean)
      exact ⟨c, fun _ => ⟨fun n z => ⟨(fun k e => by cases e), k, h2, comp, h3⟩, h1⟩⟩
    | 2 =>
      obtain ⟨c, k, comp, h1, h2, h3⟩ := Cond.arrayClass_spec (hj _ ac_long)
      exact ⟨c, fun _ => ⟨fun n z => ⟨(fun k e => by cases e), k, h2, comp, h3⟩, h1⟩⟩
    | 3 =>
      obtain ⟨comp, c, k, h1, -, h2, h3, h4⟩ := Cond.arrayOver_spec (hj _ ao_Agent)
      exact ⟨c, fun _ => ⟨fun n z => ⟨(fun k e => by cases e), k, h2, comp, h3⟩, k, comp, h2, h3, h1, h4⟩⟩
    | 4 =>
      obtain ⟨comp, c, k, h1, -, h2, h3, h4⟩ := Cond.arrayOver_spec (hj _ ao_Pair)
      exact ⟨c, fun _ => ⟨fun n z => ⟨(fun k e => by cases e), k, h2, comp, h3⟩, k, comp, h2, h3, h1, h4⟩⟩
    | 5 =>
      obtain ⟨comp, c, k, h1, -, h2, h3, h4⟩ := Cond.arrayOver_spec (hj _ ao_Letter)
      exact ⟨c, fun _ => ⟨fun n z => ⟨(fun k e => by cases e), k, h2, comp, h3⟩, k, comp, h2, h3, h1, h4⟩⟩
    | 6 =>
      obtain ⟨comp, c, k, h1, -, h2, h3, h4⟩ := Cond.arrayOver_spec (hj _ ao_Child)
      exact ⟨c, fun _ => ⟨fun n z => ⟨(fun k e => by cases e), k, h2, comp, h3⟩, k, comp, h2, h3, h1, h4⟩⟩
    | k + 7 => exact ⟨0, fun q => absurd q (by omega)⟩
  have hen : ∀ i : Nat, ∃ a : Nat, i < 3 → (Term.static jm_en (jm_enm i) jm_ed).eval args s none [] s = some (.ref a) := fun i => by
    match i with
    | 0 =>
      obtain ⟨a, c, cell, k, h, -⟩ := Cond.exactly_spec (hs _ tw_xNEW)
      exact ⟨a, fun _ => h⟩
    | 1 =>
      obtain ⟨a, c, cell, k, h, -⟩ := Cond.exactly_spec (hs _ tw_xWAITS)
      exact ⟨a, fun _ => h⟩
    | 2 =>
      obtain ⟨a, c, cell, k, h, -⟩ := Cond.exactly_spec (hs _ tw_xTHROUGH)
      exact ⟨a, fun _ => h⟩
    | i + 3 => exact ⟨0, fun q => absurd q (by omega)⟩
  obtain ⟨fC, hC⟩ := Classical.axiomOfChoice hcl
  obtain ⟨fA, hA⟩ := Classical.axiomOfChoice har
  obtain ⟨fE, hE⟩ := Classical.axiomOfChoice hen
  have nA : ∀ a : Nat, a < s.heap.size → ¬ s.heap.size ≤ a := fun a ha q => by omega
  refine ⟨(l, s.heap.size, s.heap, fun c => (fC c).1, fun c => (fC c).2, fA, fE), rfl, rfl, rfl, ⟨⟨fun c q hq => hC c q hq, fun k q hk => ?_⟩, fun i hi => ?_, ?_, va_Zqof (hts _ (List.mem_append_right _ (List.mem_of_getElem? (i := 161) (by decide +kernel)))) (hts _ (List.mem_append_right _ (List.mem_of_getElem? (i := 3) (by decide +kernel)))) (hs _ tw_rU) nA, va_Zqof (hts _ (List.mem_append_right _ (List.mem_of_getElem? (i := 163) (by decide +kernel)))) (hts _ (List.mem_append_right _ (List.mem_of_getElem? (i := 3) (by decide +kernel)))) (hs _ tw_rS) nA, fun X Y hX hY hn => ?_, top_LS (hts _ (List.mem_append_right _ (List.mem_of_getElem? (i := 161) (by decide +kernel)))), top_LS (hts _ (List.mem_append_right _ (List.mem_of_getElem? (i := 163) (by decide +kernel)))), hfl⟩, fun i j hi hj9 e => ?_⟩
  · by_cases hk7 : k < 7
    · have e : jm_tys (l, s.heap.size, s.heap, (fun c => (fC c).1), (fun c => (fC c).2), fA, fE) = (List.range 7).map (fun k => (fA k, jm_ty k)) := rfl
      rw [e, List.getElem?_map, List.getElem?_range hk7] at hk
      cases hk
      exact hA k hk7
    · have e : jm_tys (l, s.heap.size, s.heap, (fun c => (fC c).1), (fun c => (fC c).2), fA, fE) = (List.range 7).map (fun k => (fA k, jm_ty k)) := rfl
      rw [e, List.getElem?_eq_none (by simp; omega)] at hk
      cases hk
  · have hl : (Cond.laysStatic jm_en (jm_enm i) jm_ed).before args s = true := by
      have : i = 0 ∨ i = 1 ∨ i = 2 := by omega
      rcases this with rfl | rfl | rfl
      · exact (hts _ (List.mem_append_right _ (List.mem_of_getElem? (i := 226) (by decide +kernel))))
      · exact (hts _ (List.mem_append_right _ (List.mem_of_getElem? (i := 446) (by decide +kernel))))
      · exact (hts _ (List.mem_append_right _ (List.mem_of_getElem? (i := 116) (by decide +kernel))))
    exact va_Zof hl (hts _ (List.mem_append_right _ (List.mem_of_getElem? (i := 10) (by decide +kernel)))) (hE i hi) nA
  · exact List.forall_mem_cons.mpr ⟨by
      obtain ⟨a, c, cell, k, h, -⟩ := Cond.exactly_spec (hs _ tw_s37)
      exact ⟨a, vk_R.of (hts _ (List.mem_append_right _ (List.mem_of_getElem? (i := 175) (by decide +kernel)))) h⟩, List.forall_mem_cons.mpr ⟨by
      obtain ⟨a, c, cell, k, h, -⟩ := Cond.exactly_spec (hs _ tw_s48)
      exact ⟨a, vk_R.of (hts _ (List.mem_append_right _ (List.mem_of_getElem? (i := 211) (by decide +kernel)))) h⟩, List.forall_mem_cons.mpr ⟨by
      obtain ⟨a, c, cell, k, h, -⟩ := Cond.exactly_spec (hs _ tw_s62)
      exact ⟨a, vk_R.of (hts _ (List.mem_append_right _ (List.mem_of_getElem? (i := 311) (by decide +kernel)))) h⟩, List.forall_mem_cons.mpr ⟨by
      obtain ⟨a, c, cell, k, h, -⟩ := Cond.exactly_spec (hs _ tw_s64)
      exact ⟨a, vk_R.of (hts _ (List.mem_append_right _ (List.mem_of_getElem? (i := 312) (by decide +kernel)))) h⟩, List.forall_mem_cons.mpr ⟨by
      obtain ⟨a, c, cell, k, h, -⟩ := Cond.exactly_spec (hs _ tw_s72)
      exact ⟨a, vk_R.of (hts _ (List.mem_append_right _ (List.mem_of_getElem? (i := 320) (by decide +kernel)))) h⟩, List.forall_mem_cons.mpr ⟨by
      obtain ⟨a, c, cell, k, h, -⟩ := Cond.exactly_spec (hs _ tw_s81)
      exact ⟨a, vk_R.of (hts _ (List.mem_append_right _ (List.mem_of_getElem? (i := 331) (by decide +kernel)))) h⟩, List.forall_mem_cons.mpr ⟨by
      obtain ⟨a, c, cell, k, h, -⟩ := Cond.exactly_spec (hs _ tw_s100)
      exact ⟨a, vk_R.of (hts _ (List.mem_append_right _ (List.mem_of_getElem? (i := 361) (by decide +kernel)))) h⟩, List.forall_mem_cons.mpr ⟨by
      obtain ⟨a, c, cell, k, h, -⟩ := Cond.exactly_spec (hs _ tw_s109)
      exact ⟨a, vk_R.of (hts _ (List.mem_append_right _ (List.mem_of_getElem? (i := 373) (by decide +kernel)))) h⟩, List.forall_mem_cons.mpr ⟨by
      obtain ⟨a, c, cell, k, h, -⟩ := Cond.exactly_spec (hs _ tw_s129)
      exact ⟨a, vk_R.of (hts _ (List.mem_append_right _ (List.mem_of_getElem? (i := 561) (by decide +kernel)))) h⟩, List.forall_mem_cons.mpr ⟨by
      obtain ⟨a, c, cell, k, h, -⟩ := Cond.exactly_spec (hs _ tw_s136)
      exact ⟨a, vk_R.of (hts _ (List.mem_append_right _ (List.mem_of_getElem? (i := 571) (by decide +kernel)))) h⟩, List.forall_mem_cons.mpr ⟨by
      obtain ⟨a, c, cell, k, h, -⟩ := Cond.exactly_spec (hs _ tw_s142)
      exact ⟨a, vk_R.of (hts _ (List.mem_append_right _ (List.mem_of_getElem? (i := 578) (by decide +kernel)))) h⟩, List.forall_mem_cons.mpr ⟨by
      obtain ⟨a, c, cell, k, h, -⟩ := Cond.exactly_spec (hs _ tw_s172)
      exact ⟨a, vk_R.of (hts _ (List.mem_append_right _ (List.mem_of_getElem? (i := 611) (by decide +kernel)))) h⟩, List.forall_mem_cons.mpr ⟨by
      obtain ⟨a, c, cell, k, h, -⟩ := Cond.exactly_spec (hs _ tw_s174)
      exact ⟨a, vk_R.of (hts _ (List.mem_append_right _ (List.mem_of_getElem? (i := 612) (by decide +kernel)))) h⟩, List.forall_mem_cons.mpr ⟨by
      obtain ⟨a, c, cell, k, h, -⟩ := Cond.exactly_spec (hs _ tw_s210)
      exact ⟨a, vk_R.of (hts _ (List.mem_append_right _ (List.mem_of_getElem? (i := 620) (by decide +kernel)))) h⟩, fun _ h => nomatch h⟩⟩⟩⟩⟩⟩⟩⟩⟩⟩⟩⟩⟩⟩
  · have h1 : X = 0 ∨ X = 1 ∨ X = 2 := by omega
    have h2 : Y = 0 ∨ Y = 1 ∨ Y = 2 := by omega
    rcases h1 with rfl | rfl | rfl <;> rcases h2 with rfl | rfl | rfl
    · exact absurd rfl hn
    · exact va_Nc.of (hs _ tw_c01)
    · exact va_Nc.of (hs _ tw_c02)
    · exact va_Nc.of (hs _ tw_c10)
    · exact absurd rfl hn
    · exact va_Nc.of (hs _ tw_c12)
    · exact va_Nc.of (hs _ tw_c20)
    · exact va_Nc.of (hs _ tw_c21)
    · exact absurd rfl hn
  · have e0 : fE i = fE j := e
    have n01 : fE 0 ≠ fE 1 := va_neR (hs _ tw_nNEWWAITS) (hE 0 (by decide)) (hE 1 (by decide))
    have n20 : fE 2 ≠ fE 0 := va_neR (hs _ tw_nTHROUGHNEW) (hE 2 (by decide)) (hE 0 (by decide))
    have n21 : fE 2 ≠ fE 1 := va_neR (hs _ tw_nTHROUGHWAITS) (hE 2 (by decide)) (hE 1 (by decide))
    have h1 : i = 0 ∨ i = 1 ∨ i = 2 := by omega
    have h2 : j = 0 ∨ j = 1 ∨ j = 2 := by omega
    rcases h1 with rfl | rfl | rfl <;> rcases h2 with rfl | rfl | rfl <;> first | rfl | exact absurd e0 n01 | exact absurd e0.symm n01 | exact absurd e0 n20 | exact absurd e0.symm n20 | exact absurd e0 n21 | exact absurd e0.symm n21
end
/-- the law comes to its end with true -/
theorem whole_start {p : Program} {e : Env} {s : State} {m : MethodId} {below : List Frame} {meth : Method} {c : Code} (l : Launch) (hfl : l.flags = flags0) {b L : Nat} {xs : Nat → Int32} (hL : L ≤ 3072) (hnm : meth.name = "law") (htb : c.exceptionTable.toList = []) (C0 : lw_At p s m meth c b L xs) : W p l e room_1 s m #[Value.ref b] below meth c s.heap [] 0 0 (lw_Z below #[Value.ref b] s) (entryFrame m ([Value.ref b] : List Value).toArray 7) := by
  obtain ⟨hx, hb, hre, hml, hown, hts, hX, hbl, hlk, hgv⟩ := C0
  obtain ⟨Γ, rfl, e1, e2, hC, hE⟩ := top_C hfl hts hgv
  have hj : ∀ w ∈ jm_ws, w.before #[Value.ref b] s = true := fun w hw => hts w (List.mem_filter.mp hw).1
  have out : ∀ (a : Nat) (cell : Cell), jm_b Γ ≤ a → s.heap[a]? = some cell → cell.vm.isStatics = false := fun a cell ha hc => by
    have := (Array.getElem?_eq_some_iff.mp hc).1
    omega
  have E : jm_E Γ m_W_law 12 p room_1 s m #[Value.ref b] meth c := ⟨hx, hb, hre, hml, hown, hj, hC, hlk, hnm, htb, by decide, by decide, by omega, fun a _ => by rw [e2], out⟩
  have hR : jm_R Γ s ((fun a => if a = b then some (150, L) else none), (fun _ i _ => .int (xs i))) s.heap := by
    refine ⟨by omega, fun a _ => by rw [e2], out, fun a k n hk => ?_⟩
    have hk' : (if a = b then some (150, L) else none) = some (k, n) := hk
    by_cases g : a = b
    · rw [if_pos g] at hk'
      cases hk'
      exact ⟨fun q => absurd q (by decide), fun _ q => absurd q (by decide), fun _ => ⟨by omega, xs, by rw [g]; exact hX, fun i hi => rfl⟩⟩
    · rw [if_neg g] at hk'
      cases hk'
  have hsl := jm_sl [Value.ref b] (fun v hv => by
    rw [List.mem_singleton.mp hv]; rfl)
  have hlv := lv_entry [Value.ref b] (n := 7) (by rw [hsl]; show 1 ≤ 7; omega)
  have K := k_law (Γ := Γ) (b := b) (ln := L) (xs := xs) (h0 := ((fun a => if a = b then some (150, L) else none), (fun _ i _ => .int (xs i)))) hE hL (if_pos rfl) (fun i hi => rfl) p e room_1 s m #[Value.ref b] below meth c s.heap [] 0 0 ((lg_sl [Value.ref b] ++ List.replicate (7 - (lg_sl [Value.ref b]).length) Slot.unset).toArray) E hR (fun q hq => by cases hq) (by decide) (by decide)
    ⟨by rw [hlv.1]; rfl, hlv.2.1, fun i v hi => by
      match i with
      | 0 =>
        have hv : some (some (Value.ref b)) = some (some v) := hi
        cases hv
        exact ⟨by rw [hsl]; rfl, rfl⟩
      | 1 => cases (show some none = some (some v) from hi)
      | 2 => cases (show some none = some (some v) from hi)
      | 3 => cases (show some none = some (some v) from hi)
      | 4 => cases (show some none = some (some v) from hi)
      | 5 => cases (show some none = some (some v) from hi)
      | 6 => cases (show some none = some (some v) from hi)
      | k + 7 => cases (show none = some (some v) from hi)⟩ rfl
  rw [← lg_entry_eq] at K
  refine jm_mono (fun t ht => ?_) K
  obtain ⟨o, t1, t2, ⟨⟨oc, h', hq, hoc, -⟩, LL, ⟨hW, hsame⟩, hLL⟩⟩ := ht
  have hq' : oc = .inl (some (.int 1)) := hq
  subst hq'
  have ho : o = .returned (some (.int 1)) := hoc
  refine ⟨o, t1, t2, ho, ⟨_, ho⟩, hW, ?_⟩
  obtain ⟨s1, s2, s3, s4, s5, s6⟩ := hsame
  refine ⟨s1, s2, s3, s4, s5, fun a cc hc => ?_⟩
  obtain ⟨c', k1, k2, k3, k4⟩ := s6 a cc hc
  refine ⟨c', k1, k2, k3, fun i _ => k4 i (fun hmem => ?_)⟩
  have g1 : jm_b Γ ≤ a := hLL _ hmem
  have g2 := (Array.getElem?_eq_some_iff.mp hc).1
  omega
set_option maxHeartbeats 4000000 in
theorem lw_walk (l : Launch) (hfl : l.flags = flags0) (b : Addr) (xs : List Int32) : MetFree l x (headSpec (Jvm.Cond.code x code maxLocals ret :: tables_1) room_1) (lw_P b xs) (fun _ _ _ _ _ => True) lw_Q := by
  refine MetFree.of_bodyS (code := code) (maxLocals := maxLocals) (ret := ret) (by decide) ?_ ?_
  · intro args s m h hn
    obtain ⟨meth, c, h1, h2, h3, h4, h5, h6, -, -⟩ := Cond.code_spec hn (atoms_spec (ws := Jvm.Cond.code x code maxLocals ret :: tables_1) h _ List.mem_cons_self)
    exact ⟨meth, c, h1, h2, h3, h4, h5, h6⟩
  · intro p e s m args below meth c s₁ B hml0 hP _
    obtain ⟨rfl, hx, hbd, hgv⟩ := hP
    obtain ⟨scr, harrAt, hlist, hof, hsmall⟩ := hx
    obtain ⟨hcb, hkn, -, -⟩ := State.arrayAt?_spec harrAt
    have hown : s.vm.findClass R_law = some m.cls := findClass_of_methodNamed B.named
    have hts0 : ∀ c ∈ (Jvm.Cond.code x code maxLocals ret :: tables_1), c.before #[Value.ref b] s = true := atoms_spec (ws := Jvm.Cond.code x code maxLocals ret :: tables_1) B.pre
    have hts : ∀ w ∈ lw_tbl, w.before #[Value.ref b] s = true := k2_hts_sels lw_privs (fun w hw => hts0 w (List.mem_cons_of_mem _ hw)) lw_privs_ok
    have hml : c.maxLocals = 7 := B.maxLocals_eq (hts0 _ List.mem_cons_self)
    obtain ⟨meth', c', g1, g2, -, -, -, -, g7, -⟩ := Cond.code_spec B.named (hts0 _ List.mem_cons_self)
    cases B.method.symm.trans g1
    cases (Stand.of_body B).code.symm.trans g2
    have g0 : c.exceptionTable.size = 0 := by simpa [Array.isEmpty] using g7
    have gt : c.exceptionTable.toList = [] := List.eq_nil_of_length_eq_zero (by simpa using g0)
    have X₀ : Stand p l e room_1 s m #[Value.ref b] below meth c s₁ [] 0 0 := Stand.of_body B
    have hh0 : s₁.heap = s.heap := by rw [B.state]; rfl
    have hsz : scr.slots.size = xs.length := by rw [← Array.length_toList, hlist, List.length_map]
    have hval : ∀ j : Nat, j < xs.length → scr.slots[j]? = some (.int (xs.getD j 0)) := fun j hj => by
      rw [← Array.getElem?_toList, hlist]
      simp [hj]
    have hbl : b < s.heap.size := (Array.getElem?_eq_some_iff.mp hcb).1
    have hX : va_X b xs.length (fun j => xs.getD j 0) s s.heap := ⟨scr, hcb, hof, hkn, hsz, hval⟩
    have K : W p l e room_1 s m #[Value.ref b] below meth c s₁.heap [] 0 0 (lw_Z below #[Value.ref b] s) (entryFrame m ([Value.ref b] : List Value).toArray 7) := by
      rw [hh0]
      exact whole_start l hfl hbd (name_of_methodNamed B.named B.method).1 gt ⟨B.exec, B.bytes, B.returns, hml, hown, hts, hX, hbl, B.notSynchronized, hgv⟩
    obtain ⟨t, a1, o, b1, b2, b3⟩ := K s₁ rfl X₀
    exact ⟨t, o, a1, b1, b2, b3⟩
theorem lw_pre_spec {args : Array Value} {s : State} (h : (Jvm.Cond.and given_1 narrow_1).before args s = true) (hr : rest_1_c.before args s = true) : ∃ (b : Addr) (xs : List Int32), lw_P b xs args s := by
  have hs := flat_of_before _ h
  have hq := flat_of_before _ hr
  have hc : (Cond.count 1).before args s = true := hs _ (by decide +kernel)
  have harr : (Cond.arrayOf (.arg 0) .int).before args s = true := hs _ (by decide +kernel)
  have hle : (Cond.le (.length (.arg 0)) (.int 3072)).before args s = true := hs _ (by decide +kernel)
  have hlen : (Cond.isInt (.length (.arg 0))).before args s = true := hq _ (by decide +kernel)
  have hall : (Cond.all (.arg 0) (.isInt (.elem (.arg 0) (.index 0)))).before args s = true := hq _ (by decide +kernel)
  obtain ⟨b, xs, hb, hx⟩ := State.ints_of_pre rfl harr hlen hall
  have hsm : xs.length < 2 ^ 31 := hx.choose_spec.2.2.2
  have hev : (Term.length (.arg 0)).eval args s none [] s = some (.int xs.length.toInt32) := hx.length_eval hb
  have hv := Cond.le_ints hev (show (Term.int 3072).eval args s none [] s = some (.int 3072) from rfl)
  have hd : xs.length.toInt32 ≤ 3072 := by
    simpa [Cond.before, Cond.holds, hv] using hle
  have hN : xs.length ≤ 3072 := (Int32.ofNat_le_ofNat hsm (by decide)).mp (show Int32.ofNat xs.length ≤ Int32.ofNat 3072 from hd)
  exact ⟨b, xs, Cond.one_arg hc (show args[0]? = some (.ref b) from hb), hx, hN, h⟩
theorem lw_comes (l : Launch) (hfl : l.flags = flags0) : Comes l x (Jvm.Cond.code x code maxLocals ret :: tables_1) room_1 (fun tb e args s => Calls_1 tb e args s ∧ rest_1 tb e args s ∧ Pre_1 tb e args s)
    (fun _ _ args s o t => lw_Q args s o t) := by
  intro p e ha hc hk s m args below hf hfit hheap happ hpre
  obtain ⟨b, xs, hP⟩ := lw_pre_spec hpre.2.2 hpre.2.1
  obtain ⟨k, o, h1, h2, h3, hQ⟩ := lw_walk l hfl b xs p e ha hc hk s m args below hf ((Spec.applies_iff_loose hf).mp happ).1 hP trivial
  exact ⟨k, o, h1, h2, h3, hQ⟩
theorem lw_frame {s t : State} {o : Outcome} {args : Array Value} (h : Framed s o t [] room_1.cells room_1.slots) :
    Framed s o t (fieldLocs frame_1_writes args s ++ arrayLocs frame_1_arrays args s ++ staticLocs frame_1_statics s) room_1.cells room_1.slots := h
theorem lw_limb (L : Cond) (hL : ∀ (args : Array Value) (s t : State), L.after args s (.returned (some (.int 1))) t = true) :
    ArmFor flags0 classFile x code maxLocals ret World_1 tables_1 room_1 Calls_1 rest_1 Pre_1
      (fun tb e a s o t => postC L tb e a s o t ∧ Framed s o t (fieldLocs frame_1_writes a s ++ arrayLocs frame_1_arrays a s ++ staticLocs frame_1_statics s) room_1.cells room_1.slots) := by
  intro l hfl _ _ p e ha hc hk s m args below hf hfit hheap happ hpre
  obtain ⟨k, o, h1, h2, h3, rfl, hF⟩ := lw_comes l hfl p e ha hc hk s m args below hf hfit hheap happ hpre
  exact ⟨k, _, h1, h2, h3, hL args s _, lw_frame hF⟩
theorem i_vc : Claimed_1_1 ∧ Claimed_1_2 := ⟨lw_limb limb_1_1 (fun args s t => by simp [limb_1_1, Cond.after, Cond.holds, Cond.value]), lw_limb limb_1_2 (fun args s t => Cond.after_iff.mpr (by
  first | (rw [show limb_1_2 = Cond.eq .result (.int 1) from rfl, Cond.eq_ints (x := 1) (y := 1) rfl rfl]; simp; done) | (simp [limb_1_2, Cond.value, Term.eval]; done)))⟩
