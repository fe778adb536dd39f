/-! ROWS of single instructions over jm_W. Written by wip/whole/gen/rows.py -/
section
variable {Γ : jm_G} {μ : jm_Mt} {d rc rs : Nat} {Q : jm_O → jm_H → Prop} {pc : Nat} {ls : List (Option Value)} {st : List Value} {h : jm_H}
theorem jm_iconst {n : Int} (hd : decode μ.2.1 pc = .ok (.iconst n, 1)) (k : jm_W Γ μ d rc rs Q (pc + 1) ls (.int (Int32.ofInt n) :: st) h) : jm_W Γ μ d rc rs Q pc ls (st) h := by
  intro p e R s m args below meth c H locs cells slots arr E hR hlo hc hs hl hn
  exact lv_iconst E.1 E.2.1 hd rfl (k p e R s m args below meth c H locs cells slots arr E hR hlo hc hs hl hn)
theorem jm_bipush {n : Int} (hd : decode μ.2.1 pc = .ok (.bipush n, 2)) (k : jm_W Γ μ d rc rs Q (pc + 2) ls (.int (Int8.ofInt n).toInt32 :: st) h) : jm_W Γ μ d rc rs Q pc ls (st) h := by
  intro p e R s m args below meth c H locs cells slots arr E hR hlo hc hs hl hn
  exact lv_bipush E.1 E.2.1 hd rfl (k p e R s m args below meth c H locs cells slots arr E hR hlo hc hs hl hn)
theorem jm_sipush {n : Int} (hd : decode μ.2.1 pc = .ok (.sipush n, 3)) (k : jm_W Γ μ d rc rs Q (pc + 3) ls (.int (Int16.ofInt n).toInt32 :: st) h) : jm_W Γ μ d rc rs Q pc ls (st) h := by
  intro p e R s m args below meth c H locs cells slots arr E hR hlo hc hs hl hn
  exact lv_sipush E.1 E.2.1 hd rfl (k p e R s m args below meth c H locs cells slots arr E hR hlo hc hs hl hn)
theorem jm_null  (hd : decode μ.2.1 pc = .ok (.aconst_null, 1)) (k : jm_W Γ μ d rc rs Q (pc + 1) ls (.null :: st) h) : jm_W Γ μ d rc rs Q pc ls (st) h := by
  intro p e R s m args below meth c H locs cells slots arr E hR hlo hc hs hl hn
  exact lv_null E.1 E.2.1 hd (k p e R s m args below meth c H locs cells slots arr E hR hlo hc hs hl hn)
theorem jm_iadd {x y : Int32} (hd : decode μ.2.1 pc = .ok (.iadd, 1)) (k : jm_W Γ μ d rc rs Q (pc + 1) ls (.int (x + y) :: st) h) : jm_W Γ μ d rc rs Q pc ls (.int y :: .int x :: st) h := by
  intro p e R s m args below meth c H locs cells slots arr E hR hlo hc hs hl hn
  exact lv_iadd E.1 E.2.1 hd (k p e R s m args below meth c H locs cells slots arr E hR hlo hc hs hl hn)
theorem jm_isub {x y : Int32} (hd : decode μ.2.1 pc = .ok (.isub, 1)) (k : jm_W Γ μ d rc rs Q (pc + 1) ls (.int (x - y) :: st) h) : jm_W Γ μ d rc rs Q pc ls (.int y :: .int x :: st) h := by
  intro p e R s m args below meth c H locs cells slots arr E hR hlo hc hs hl hn
  exact lv_isub E.1 E.2.1 hd (k p e R s m args below meth c H locs cells slots arr E hR hlo hc hs hl hn)
theorem jm_imul {x y : Int32} (hd : decode μ.2.1 pc = .ok (.imul, 1)) (k : jm_W Γ μ d rc rs Q (pc + 1) ls (.int (x * y) :: st) h) : jm_W Γ μ d rc rs Q pc ls (.int y :: .int x :: st) h := by
  intro p e R s m args below meth c H locs cells slots arr E hR hlo hc hs hl hn
  exact lv_imul E.1 E.2.1 hd (k p e R s m args below meth c H locs cells slots arr E hR hlo hc hs hl hn)
theorem jm_iand {x y : Int32} (hd : decode μ.2.1 pc = .ok (.iand, 1)) (k : jm_W Γ μ d rc rs Q (pc + 1) ls (.int (x &&& y) :: st) h) : jm_W Γ μ d rc rs Q pc ls (.int y :: .int x :: st) h := by
  intro p e R s m args below meth c H locs cells slots arr E hR hlo hc hs hl hn
  exact lv_iand E.1 E.2.1 hd (k p e R s m args below meth c H locs cells slots arr E hR hlo hc hs hl hn)
theorem jm_ior {x y : Int32} (hd : decode μ.2.1 pc = .ok (.ior, 1)) (k : jm_W Γ μ d rc rs Q (pc + 1) ls (.int (x ||| y) :: st) h) : jm_W Γ μ d rc rs Q pc ls (.int y :: .int x :: st) h := by
  intro p e R s m args below meth c H locs cells slots arr E hR hlo hc hs hl hn
  exact lv_ior E.1 E.2.1 hd (k p e R s m args below meth c H locs cells slots arr E hR hlo hc hs hl hn)
theorem jm_ixor {x y : Int32} (hd : decode μ.2.1 pc = .ok (.ixor, 1)) (k : jm_W Γ μ d rc rs Q (pc + 1) ls (.int (x ^^^ y) :: st) h) : jm_W Γ μ d rc rs Q pc ls (.int y :: .int x :: st) h := by
  intro p e R s m args below meth c H locs cells slots arr E hR hlo hc hs hl hn
  exact lv_ixor E.1 E.2.1 hd (k p e R s m args below meth c H locs cells slots arr E hR hlo hc hs hl hn)
theorem jm_idiv {x y : Int32} (hd : decode μ.2.1 pc = .ok (.idiv, 1)) (hne : ¬ y = 0) (k : jm_W Γ μ d rc rs Q (pc + 1) ls (.int (x / y) :: st) h) : jm_W Γ μ d rc rs Q pc ls (.int y :: .int x :: st) h := by
  intro p e R s m args below meth c H locs cells slots arr E hR hlo hc hs hl hn
  exact lv_idiv E.1 E.2.1 hd hne (k p e R s m args below meth c H locs cells slots arr E hR hlo hc hs hl hn)
theorem jm_irem {x y : Int32} (hd : decode μ.2.1 pc = .ok (.irem, 1)) (hne : ¬ y = 0) (k : jm_W Γ μ d rc rs Q (pc + 1) ls (.int (x - x / y * y) :: st) h) : jm_W Γ μ d rc rs Q pc ls (.int y :: .int x :: st) h := by
  intro p e R s m args below meth c H locs cells slots arr E hR hlo hc hs hl hn
  exact lv_irem E.1 E.2.1 hd hne (k p e R s m args below meth c H locs cells slots arr E hR hlo hc hs hl hn)
theorem jm_ineg {x : Int32} (hd : decode μ.2.1 pc = .ok (.ineg, 1)) (k : jm_W Γ μ d rc rs Q (pc + 1) ls (.int (-x) :: st) h) : jm_W Γ μ d rc rs Q pc ls (.int x :: st) h := by
  intro p e R s m args below meth c H locs cells slots arr E hR hlo hc hs hl hn
  exact lv_ineg E.1 E.2.1 hd (k p e R s m args below meth c H locs cells slots arr E hR hlo hc hs hl hn)
theorem jm_ishl {x y : Int32} (hd : decode μ.2.1 pc = .ok (.ishl, 1)) (k : jm_W Γ μ d rc rs Q (pc + 1) ls (.int (x <<< (y &&& 31)) :: st) h) : jm_W Γ μ d rc rs Q pc ls (.int y :: .int x :: st) h := by
  intro p e R s m args below meth c H locs cells slots arr E hR hlo hc hs hl hn
  exact lv_ishl E.1 E.2.1 hd (k p e R s m args below meth c H locs cells slots arr E hR hlo hc hs hl hn)
theorem jm_ishr {x y : Int32} (hd : decode μ.2.1 pc = .ok (.ishr, 1)) (k : jm_W Γ μ d rc rs Q (pc + 1) ls (.int (x >>> (y &&& 31)) :: st) h) : jm_W Γ μ d rc rs Q pc ls (.int y :: .int x :: st) h := by
  intro p e R s m args below meth c H locs cells slots arr E hR hlo hc hs hl hn
  exact lv_ishr E.1 E.2.1 hd (k p e R s m args below meth c H locs cells slots arr E hR hlo hc hs hl hn)
theorem jm_iushr {x y : Int32} (hd : decode μ.2.1 pc = .ok (.iushr, 1)) (k : jm_W Γ μ d rc rs Q (pc + 1) ls (.int (x.toUInt32 >>> (y.toUInt32 &&& Int32.toUInt32 31)).toInt32 :: st) h) : jm_W Γ μ d rc rs Q pc ls (.int y :: .int x :: st) h := by
  intro p e R s m args below meth c H locs cells slots arr E hR hlo hc hs hl hn
  exact lv_iushr E.1 E.2.1 hd rfl (k p e R s m args below meth c H locs cells slots arr E hR hlo hc hs hl hn)
theorem jm_i2l {x : Int32} (hd : decode μ.2.1 pc = .ok (.i2l, 1)) (k : jm_W Γ μ d rc rs Q (pc + 1) ls (.long x.toInt64 :: st) h) : jm_W Γ μ d rc rs Q pc ls (.int x :: st) h := by
  intro p e R s m args below meth c H locs cells slots arr E hR hlo hc hs hl hn
  exact lv_i2l E.1 E.2.1 hd rfl (k p e R s m args below meth c H locs cells slots arr E hR hlo hc hs hl hn)
theorem jm_lcmp {x y : Int64} (hd : decode μ.2.1 pc = .ok (.lcmp, 1)) (k : jm_W Γ μ d rc rs Q (pc + 1) ls (.int (lg_cmp x y) :: st) h) : jm_W Γ μ d rc rs Q pc ls (.long y :: .long x :: st) h := by
  intro p e R s m args below meth c H locs cells slots arr E hR hlo hc hs hl hn
  exact W.lcmp E.1 E.2.1 hd (k p e R s m args below meth c H locs cells slots arr E hR hlo hc hs hl hn)
theorem jm_dup {v : Value} (hd : decode μ.2.1 pc = .ok (.dup, 1)) (hv : v.category = 1) (k : jm_W Γ μ d rc rs Q (pc + 1) ls (v :: v :: st) h) : jm_W Γ μ d rc rs Q pc ls (v :: st) h := by
  intro p e R s m args below meth c H locs cells slots arr E hR hlo hc hs hl hn
  exact lv_dup E.1 E.2.1 hd hv (k p e R s m args below meth c H locs cells slots arr E hR hlo hc hs hl hn)
theorem jm_pop {v : Value} (hd : decode μ.2.1 pc = .ok (.pop, 1)) (hv : v.category = 1) (k : jm_W Γ μ d rc rs Q (pc + 1) ls (st) h) : jm_W Γ μ d rc rs Q pc ls (v :: st) h := by
  intro p e R s m args below meth c H locs cells slots arr E hR hlo hc hs hl hn
  exact lv_pop E.1 E.2.1 hd hv (k p e R s m args below meth c H locs cells slots arr E hR hlo hc hs hl hn)
theorem jm_dup_x1 {v u : Value} (hd : decode μ.2.1 pc = .ok (.dup_x1, 1)) (hv : v.category = 1) (hu : u.category = 1) (k : jm_W Γ μ d rc rs Q (pc + 1) ls (v :: u :: v :: st) h) : jm_W Γ μ d rc rs Q pc ls (v :: u :: st) h := by
  intro p e R s m args below meth c H locs cells slots arr E hR hlo hc hs hl hn
  exact lv_dup_x1 E.1 E.2.1 hd hv hu (k p e R s m args below meth c H locs cells slots arr E hR hlo hc hs hl hn)
theorem jm_dup_x2 {v u x : Value} (hd : decode μ.2.1 pc = .ok (.dup_x2, 1)) (hv : v.category = 1) (hu : u.category = 1) (hx : x.category = 1) (k : jm_W Γ μ d rc rs Q (pc + 1) ls (v :: u :: x :: v :: st) h) : jm_W Γ μ d rc rs Q pc ls (v :: u :: x :: st) h := by
  intro p e R s m args below meth c H locs cells slots arr E hR hlo hc hs hl hn
  exact lv_dup_x2 E.1 E.2.1 hd hv hu hx (k p e R s m args below meth c H locs cells slots arr E hR hlo hc hs hl hn)
theorem jm_dup2 {v u : Value} (hd : decode μ.2.1 pc = .ok (.dup2, 1)) (hv : v.category = 1) (hu : u.category = 1) (k : jm_W Γ μ d rc rs Q (pc + 1) ls (v :: u :: v :: u :: st) h) : jm_W Γ μ d rc rs Q pc ls (v :: u :: st) h := by
  intro p e R s m args below meth c H locs cells slots arr E hR hlo hc hs hl hn
  exact lv_dup2_11 E.1 E.2.1 hd hv hu (k p e R s m args below meth c H locs cells slots arr E hR hlo hc hs hl hn)
theorem jm_iload_n {i : Fin 4} {x : Int32} (hd : decode μ.2.1 pc = .ok (.iload_n i, 1)) (hx : ls[i.val]? = some (some (.int x))) (k : jm_W Γ μ d rc rs Q (pc + 1) ls (.int x :: st) h) : jm_W Γ μ d rc rs Q pc ls (st) h := by
  intro p e R s m args below meth c H locs cells slots arr E hR hlo hc hs hl hn
  exact lv_iload_n E.1 E.2.1 hd rfl (hl.2.2 _ _ hx).1 (k p e R s m args below meth c H locs cells slots arr E hR hlo hc hs hl hn)
theorem jm_iload {i : Nat} {x : Int32} (hd : decode μ.2.1 pc = .ok (.iload i, 2)) (hx : ls[i]? = some (some (.int x))) (k : jm_W Γ μ d rc rs Q (pc + 2) ls (.int x :: st) h) : jm_W Γ μ d rc rs Q pc ls (st) h := by
  intro p e R s m args below meth c H locs cells slots arr E hR hlo hc hs hl hn
  exact lv_iload E.1 E.2.1 hd (hl.2.2 _ _ hx).1 (k p e R s m args below meth c H locs cells slots arr E hR hlo hc hs hl hn)
theorem jm_aload_n {i : Fin 4} {x : Nat} (hd : decode μ.2.1 pc = .ok (.aload_n i, 1)) (hx : ls[i.val]? = some (some (.ref x))) (k : jm_W Γ μ d rc rs Q (pc + 1) ls (.ref x :: st) h) : jm_W Γ μ d rc rs Q pc ls (st) h := by
  intro p e R s m args below meth c H locs cells slots arr E hR hlo hc hs hl hn
  exact lv_aload_n E.1 E.2.1 hd rfl (hl.2.2 _ _ hx).1 (k p e R s m args below meth c H locs cells slots arr E hR hlo hc hs hl hn)
theorem jm_aload {i : Nat} {x : Nat} (hd : decode μ.2.1 pc = .ok (.aload i, 2)) (hx : ls[i]? = some (some (.ref x))) (k : jm_W Γ μ d rc rs Q (pc + 2) ls (.ref x :: st) h) : jm_W Γ μ d rc rs Q pc ls (st) h := by
  intro p e R s m args below meth c H locs cells slots arr E hR hlo hc hs hl hn
  exact lv_aload E.1 E.2.1 hd (hl.2.2 _ _ hx).1 (k p e R s m args below meth c H locs cells slots arr E hR hlo hc hs hl hn)
theorem jm_aload_nN {i : Fin 4} (hd : decode μ.2.1 pc = .ok (.aload_n i, 1)) (hx : ls[i.val]? = some (some .null)) (k : jm_W Γ μ d rc rs Q (pc + 1) ls (.null :: st) h) : jm_W Γ μ d rc rs Q pc ls (st) h := by
  intro p e R s m args below meth c H locs cells slots arr E hR hlo hc hs hl hn
  exact lv_aload_nN E.1 E.2.1 hd rfl (hl.2.2 _ _ hx).1 (k p e R s m args below meth c H locs cells slots arr E hR hlo hc hs hl hn)
theorem jm_aloadN {i : Nat} (hd : decode μ.2.1 pc = .ok (.aload i, 2)) (hx : ls[i]? = some (some .null)) (k : jm_W Γ μ d rc rs Q (pc + 2) ls (.null :: st) h) : jm_W Γ μ d rc rs Q pc ls (st) h := by
  intro p e R s m args below meth c H locs cells slots arr E hR hlo hc hs hl hn
  exact lv_aloadN E.1 E.2.1 hd (hl.2.2 _ _ hx).1 (k p e R s m args below meth c H locs cells slots arr E hR hlo hc hs hl hn)
def jm_pr (ls : List (Option Value)) : List (Nat × Value) := (List.range ls.length).filterMap (fun i => (ls[i]?).bind (fun o => o.map (fun v => (i, v))))
theorem jm_pr_mem {ls : List (Option Value)} {i : Nat} {v : Value} : (i, v) ∈ jm_pr ls ↔ ls[i]? = some (some v) := by
  unfold jm_pr
  rw [List.mem_filterMap]
  constructor
  · rintro ⟨j, -, hj⟩
    cases hq : ls[j]? with
    | none => rw [hq] at hj; cases hj
    | some o =>
      rw [hq] at hj
      cases o with
      | none => cases hj
      | some w =>
        cases hj
        exact hq
  · intro hq
    exact ⟨i, List.mem_range.mpr (List.getElem?_eq_some_iff.mp hq).1, by rw [hq]; rfl⟩
theorem jm_has {ls : List (Option Value)} {arr : Array Slot} (hl : jm_L ls arr) : lv_has arr ls.length (jm_pr ls) :=
  ⟨hl.1, hl.2.1, fun q hq => (hl.2.2 q.1 q.2 (jm_pr_mem.mp hq)).1⟩
theorem jm_stored {ls : List (Option Value)} {arr arr' : Array Slot} {i : Nat} {v : Value} (hl : jm_L ls arr) (hv : v.category = 1)
    (hh : lv_has arr' ls.length ((i, v) :: (jm_pr ls).filter (fun q => !(q.1 == i) && !(q.1 + 1 == i && q.2.category == 2)))) : jm_L (ls.set i (some v)) arr' := by
  obtain ⟨h1, h2, h3⟩ := hh
  refine ⟨by rw [List.length_set]; exact h1, h2, fun j w hj => ?_⟩
  by_cases hji : j = i
  · subst hji
    have hlt : j < ls.length := by
      have := (List.getElem?_eq_some_iff.mp hj).1
      rwa [List.length_set] at this
    rw [List.getElem?_set_self hlt] at hj
    cases hj
    exact ⟨h3 _ List.mem_cons_self, hv⟩
  · rw [List.getElem?_set_ne (Ne.symm hji)] at hj
    obtain ⟨g1, g2⟩ := hl.2.2 j w hj
    refine ⟨h3 (j, w) (List.mem_cons_of_mem _ (List.mem_filter.mpr ⟨jm_pr_mem.mpr hj, ?_⟩)), g2⟩
    simp [hji, g2]
theorem jm_istore_n {i : Fin 4} {x : Int32} (hd : decode μ.2.1 pc = .ok (.istore_n i, 1)) (hi : i.val < ls.length) (k : jm_W Γ μ d rc rs Q (pc + 1) (ls.set i.val (some (.int x))) st h) : jm_W Γ μ d rc rs Q pc ls (.int x :: st) h := by
  intro p e R s m args below meth c H locs cells slots arr E hR hlo hc hs hl hn
  exact lv_istore_n E.1 E.2.1 hd rfl (jm_has hl) hi rfl (fun arr' hh => k p e R s m args below meth c H locs cells slots arr' E hR hlo hc hs (jm_stored hl rfl hh) (by rw [List.length_set]; exact hn))
theorem jm_istore {i : Nat} {x : Int32} (hd : decode μ.2.1 pc = .ok (.istore i, 2)) (hi : i < ls.length) (k : jm_W Γ μ d rc rs Q (pc + 2) (ls.set i (some (.int x))) st h) : jm_W Γ μ d rc rs Q pc ls (.int x :: st) h := by
  intro p e R s m args below meth c H locs cells slots arr E hR hlo hc hs hl hn
  exact lv_istore E.1 E.2.1 hd (jm_has hl) hi rfl (fun arr' hh => k p e R s m args below meth c H locs cells slots arr' E hR hlo hc hs (jm_stored hl rfl hh) (by rw [List.length_set]; exact hn))
theorem jm_astore_n {i : Fin 4} {x : Nat} (hd : decode μ.2.1 pc = .ok (.astore_n i, 1)) (hi : i.val < ls.length) (k : jm_W Γ μ d rc rs Q (pc + 1) (ls.set i.val (some (.ref x))) st h) : jm_W Γ μ d rc rs Q pc ls (.ref x :: st) h := by
  intro p e R s m args below meth c H locs cells slots arr E hR hlo hc hs hl hn
  exact lv_astore_n E.1 E.2.1 hd rfl (jm_has hl) hi rfl (fun arr' hh => k p e R s m args below meth c H locs cells slots arr' E hR hlo hc hs (jm_stored hl rfl hh) (by rw [List.length_set]; exact hn))
theorem jm_astore {i : Nat} {x : Nat} (hd : decode μ.2.1 pc = .ok (.astore i, 2)) (hi : i < ls.length) (k : jm_W Γ μ d rc rs Q (pc + 2) (ls.set i (some (.ref x))) st h) : jm_W Γ μ d rc rs Q pc ls (.ref x :: st) h := by
  intro p e R s m args below meth c H locs cells slots arr E hR hlo hc hs hl hn
  exact lv_astore E.1 E.2.1 hd (jm_has hl) hi rfl (fun arr' hh => k p e R s m args below meth c H locs cells slots arr' E hR hlo hc hs (jm_stored hl rfl hh) (by rw [List.length_set]; exact hn))
theorem jm_astore_nN {i : Fin 4} (hd : decode μ.2.1 pc = .ok (.astore_n i, 1)) (hi : i.val < ls.length) (k : jm_W Γ μ d rc rs Q (pc + 1) (ls.set i.val (some (.null))) st h) : jm_W Γ μ d rc rs Q pc ls (.null :: st) h := by
  intro p e R s m args below meth c H locs cells slots arr E hR hlo hc hs hl hn
  exact lv_astore_nN E.1 E.2.1 hd rfl (jm_has hl) hi rfl (fun arr' hh => k p e R s m args below meth c H locs cells slots arr' E hR hlo hc hs (jm_stored hl rfl hh) (by rw [List.length_set]; exact hn))
theorem jm_astoreN {i : Nat} (hd : decode μ.2.1 pc = .ok (.astore i, 2)) (hi : i < ls.length) (k : jm_W Γ μ d rc rs Q (pc + 2) (ls.set i (some (.null))) st h) : jm_W Γ μ d rc rs Q pc ls (.null :: st) h := by
  intro p e R s m args below meth c H locs cells slots arr E hR hlo hc hs hl hn
  exact lv_astoreN E.1 E.2.1 hd (jm_has hl) hi rfl (fun arr' hh => k p e R s m args below meth c H locs cells slots arr' E hR hlo hc hs (jm_stored hl rfl hh) (by rw [List.length_set]; exact hn))
theorem jm_iinc {i : Nat} {n : Int} {x : Int32} (hd : decode μ.2.1 pc = .ok (.iinc i n, 3)) (hx : ls[i]? = some (some (.int x))) (k : jm_W Γ μ d rc rs Q (pc + 3) (ls.set i (some (.int (x + Int32.ofInt n)))) st h) : jm_W Γ μ d rc rs Q pc ls st h := by
  intro p e R s m args below meth c H locs cells slots arr E hR hlo hc hs hl hn
  obtain ⟨j, hj⟩ := List.getElem?_of_mem (jm_pr_mem.mpr hx)
  exact lv_iinc E.1 E.2.1 hd (jm_has hl) hj rfl (List.getElem?_eq_some_iff.mp hx).1 rfl (fun arr' hh => k p e R s m args below meth c H locs cells slots arr' E hR hlo hc hs (jm_stored hl rfl hh) (by rw [List.length_set]; exact hn))
theorem jm_icmp_eq {x y : Int32} {off : Int} (tgt : Nat) (hd : decode μ.2.1 pc = .ok (.if_icmp .eq off, 3)) (ht : (pc : Int) + off = (tgt : Int)) (kt : x = y → jm_W Γ μ d rc rs Q tgt ls st h) (kf : ¬ (x = y) → jm_W Γ μ d rc rs Q (pc + 3) ls st h) : jm_W Γ μ d rc rs Q pc ls (.int y :: .int x :: st) h := by
  intro p e R s m args below meth c H locs cells slots arr E hR hlo hc hs hl hn
  exact lv_icmp_eq E.1 E.2.1 hd ht (fun q => kt (by first | exact q | simpa using q) p e R s m args below meth c H locs cells slots arr E hR hlo hc hs hl hn) (fun q => kf (by first | exact q | simpa using q) p e R s m args below meth c H locs cells slots arr E hR hlo hc hs hl hn)
theorem jm_if_eq {x : Int32} {off : Int} (tgt : Nat) (hd : decode μ.2.1 pc = .ok (.ifCond .eq off, 3)) (ht : (pc : Int) + off = (tgt : Int)) (kt : x = 0 → jm_W Γ μ d rc rs Q tgt ls st h) (kf : ¬ (x = 0) → jm_W Γ μ d rc rs Q (pc + 3) ls st h) : jm_W Γ μ d rc rs Q pc ls (.int x :: st) h := by
  intro p e R s m args below meth c H locs cells slots arr E hR hlo hc hs hl hn
  exact lv_if_eq E.1 E.2.1 hd ht (fun q => kt (by first | exact q | simpa using q) p e R s m args below meth c H locs cells slots arr E hR hlo hc hs hl hn) (fun q => kf (by first | exact q | simpa using q) p e R s m args below meth c H locs cells slots arr E hR hlo hc hs hl hn)
theorem jm_icmp_ne {x y : Int32} {off : Int} (tgt : Nat) (hd : decode μ.2.1 pc = .ok (.if_icmp .ne off, 3)) (ht : (pc : Int) + off = (tgt : Int)) (kt : ¬ x = y → jm_W Γ μ d rc rs Q tgt ls st h) (kf : ¬ (¬ x = y) → jm_W Γ μ d rc rs Q (pc + 3) ls st h) : jm_W Γ μ d rc rs Q pc ls (.int y :: .int x :: st) h := by
  intro p e R s m args below meth c H locs cells slots arr E hR hlo hc hs hl hn
  exact lv_icmp_ne E.1 E.2.1 hd ht (fun q => kt (by first | exact q | simpa using q) p e R s m args below meth c H locs cells slots arr E hR hlo hc hs hl hn) (fun q => kf (by first | exact q | simpa using q) p e R s m args below meth c H locs cells slots arr E hR hlo hc hs hl hn)
theorem jm_if_ne {x : Int32} {off : Int} (tgt : Nat) (hd : decode μ.2.1 pc = .ok (.ifCond .ne off, 3)) (ht : (pc : Int) + off = (tgt : Int)) (kt : ¬ x = 0 → jm_W Γ μ d rc rs Q tgt ls st h) (kf : ¬ (¬ x = 0) → jm_W Γ μ d rc rs Q (pc + 3) ls st h) : jm_W Γ μ d rc rs Q pc ls (.int x :: st) h := by
  intro p e R s m args below meth c H locs cells slots arr E hR hlo hc hs hl hn
  exact lv_if_ne E.1 E.2.1 hd ht (fun q => kt (by first | exact q | simpa using q) p e R s m args below meth c H locs cells slots arr E hR hlo hc hs hl hn) (fun q => kf (by first | exact q | simpa using q) p e R s m args below meth c H locs cells slots arr E hR hlo hc hs hl hn)
theorem jm_icmp_lt {x y : Int32} {off : Int} (tgt : Nat) (hd : decode μ.2.1 pc = .ok (.if_icmp .lt off, 3)) (ht : (pc : Int) + off = (tgt : Int)) (kt : x < y → jm_W Γ μ d rc rs Q tgt ls st h) (kf : ¬ (x < y) → jm_W Γ μ d rc rs Q (pc + 3) ls st h) : jm_W Γ μ d rc rs Q pc ls (.int y :: .int x :: st) h := by
  intro p e R s m args below meth c H locs cells slots arr E hR hlo hc hs hl hn
  exact lv_icmp_lt E.1 E.2.1 hd ht (fun q => kt (by first | exact q | simpa using q) p e R s m args below meth c H locs cells slots arr E hR hlo hc hs hl hn) (fun q => kf (by first | exact q | simpa using q) p e R s m args below meth c H locs cells slots arr E hR hlo hc hs hl hn)
theorem jm_if_lt {x : Int32} {off : Int} (tgt : Nat) (hd : decode μ.2.1 pc = .ok (.ifCond .lt off, 3)) (ht : (pc : Int) + off = (tgt : Int)) (kt : x < 0 → jm_W Γ μ d rc rs Q tgt ls st h) (kf : ¬ (x < 0) → jm_W Γ μ d rc rs Q (pc + 3) ls st h) : jm_W Γ μ d rc rs Q pc ls (.int x :: st) h := by
  intro p e R s m args below meth c H locs cells slots arr E hR hlo hc hs hl hn
  exact lv_if_lt E.1 E.2.1 hd ht (fun q => kt (by first | exact q | simpa using q) p e R s m args below meth c H locs cells slots arr E hR hlo hc hs hl hn) (fun q => kf (by first | exact q | simpa using q) p e R s m args below meth c H locs cells slots arr E hR hlo hc hs hl hn)
theorem jm_icmp_ge {x y : Int32} {off : Int} (tgt : Nat) (hd : decode μ.2.1 pc = .ok (.if_icmp .ge off, 3)) (ht : (pc : Int) + off = (tgt : Int)) (kt : y ≤ x → jm_W Γ μ d rc rs Q tgt ls st h) (kf : ¬ (y ≤ x) → jm_W Γ μ d rc rs Q (pc + 3) ls st h) : jm_W Γ μ d rc rs Q pc ls (.int y :: .int x :: st) h := by
  intro p e R s m args below meth c H locs cells slots arr E hR hlo hc hs hl hn
  exact lv_icmp_ge E.1 E.2.1 hd ht (fun q => kt (by first | exact q | simpa using q) p e R s m args below meth c H locs cells slots arr E hR hlo hc hs hl hn) (fun q => kf (by first | exact q | simpa using q) p e R s m args below meth c H locs cells slots arr E hR hlo hc hs hl hn)
theorem jm_if_ge {x : Int32} {off : Int} (tgt : Nat) (hd : decode μ.2.1 pc = .ok (.ifCond .ge off, 3)) (ht : (pc : Int) + off = (tgt : Int)) (kt : 0 ≤ x → jm_W Γ μ d rc rs Q tgt ls st h) (kf : ¬ (0 ≤ x) → jm_W Γ μ d rc rs Q (pc + 3) ls st h) : jm_W Γ μ d rc rs Q pc ls (.int x :: st) h := by
  intro p e R s m args below meth c H locs cells slots arr E hR hlo hc hs hl hn
  exact lv_if_ge E.1 E.2.1 hd ht (fun q => kt (by first | exact q | simpa using q) p e R s m args below meth c H locs cells slots arr E hR hlo hc hs hl hn) (fun q => kf (by first | exact q | simpa using q) p e R s m args below meth c H locs cells slots arr E hR hlo hc hs hl hn)
theorem jm_icmp_gt {x y : Int32} {off : Int} (tgt : Nat) (hd : decode μ.2.1 pc = .ok (.if_icmp .gt off, 3)) (ht : (pc : Int) + off = (tgt : Int)) (kt : y < x → jm_W Γ μ d rc rs Q tgt ls st h) (kf : ¬ (y < x) → jm_W Γ μ d rc rs Q (pc + 3) ls st h) : jm_W Γ μ d rc rs Q pc ls (.int y :: .int x :: st) h := by
  intro p e R s m args below meth c H locs cells slots arr E hR hlo hc hs hl hn
  exact lv_icmp_gt E.1 E.2.1 hd ht (fun q => kt (by first | exact q | simpa using q) p e R s m args below meth c H locs cells slots arr E hR hlo hc hs hl hn) (fun q => kf (by first | exact q | simpa using q) p e R s m args below meth c H locs cells slots arr E hR hlo hc hs hl hn)
theorem jm_if_gt {x : Int32} {off : Int} (tgt : Nat) (hd : decode μ.2.1 pc = .ok (.ifCond .gt off, 3)) (ht : (pc : Int) + off = (tgt : Int)) (kt : 0 < x → jm_W Γ μ d rc rs Q tgt ls st h) (kf : ¬ (0 < x) → jm_W Γ μ d rc rs Q (pc + 3) ls st h) : jm_W Γ μ d rc rs Q pc ls (.int x :: st) h := by
  intro p e R s m args below meth c H locs cells slots arr E hR hlo hc hs hl hn
  exact lv_if_gt E.1 E.2.1 hd ht (fun q => kt (by first | exact q | simpa using q) p e R s m args below meth c H locs cells slots arr E hR hlo hc hs hl hn) (fun q => kf (by first | exact q | simpa using q) p e R s m args below meth c H locs cells slots arr E hR hlo hc hs hl hn)
theorem jm_icmp_le {x y : Int32} {off : Int} (tgt : Nat) (hd : decode μ.2.1 pc = .ok (.if_icmp .le off, 3)) (ht : (pc : Int) + off = (tgt : Int)) (kt : x ≤ y → jm_W Γ μ d rc rs Q tgt ls st h) (kf : ¬ (x ≤ y) → jm_W Γ μ d rc rs Q (pc + 3) ls st h) : jm_W Γ μ d rc rs Q pc ls (.int y :: .int x :: st) h := by
  intro p e R s m args below meth c H locs cells slots arr E hR hlo hc hs hl hn
  exact lv_icmp_le E.1 E.2.1 hd ht (fun q => kt (by first | exact q | simpa using q) p e R s m args below meth c H locs cells slots arr E hR hlo hc hs hl hn) (fun q => kf (by first | exact q | simpa using q) p e R s m args below meth c H locs cells slots arr E hR hlo hc hs hl hn)
theorem jm_if_le {x : Int32} {off : Int} (tgt : Nat) (hd : decode μ.2.1 pc = .ok (.ifCond .le off, 3)) (ht : (pc : Int) + off = (tgt : Int)) (kt : x ≤ 0 → jm_W Γ μ d rc rs Q tgt ls st h) (kf : ¬ (x ≤ 0) → jm_W Γ μ d rc rs Q (pc + 3) ls st h) : jm_W Γ μ d rc rs Q pc ls (.int x :: st) h := by
  intro p e R s m args below meth c H locs cells slots arr E hR hlo hc hs hl hn
  exact lv_if_le E.1 E.2.1 hd ht (fun q => kt (by first | exact q | simpa using q) p e R s m args below meth c H locs cells slots arr E hR hlo hc hs hl hn) (fun q => kf (by first | exact q | simpa using q) p e R s m args below meth c H locs cells slots arr E hR hlo hc hs hl hn)
theorem jm_goto {off : Int} (tgt : Nat) (hd : decode μ.2.1 pc = .ok (.goto off, 3)) (ht : (pc : Int) + off = (tgt : Int)) (k : jm_W Γ μ d rc rs Q tgt ls st h) : jm_W Γ μ d rc rs Q pc ls st h := by
  intro p e R s m args below meth c H locs cells slots arr E hR hlo hc hs hl hn
  exact lv_goto E.1 E.2.1 hd ht (k p e R s m args below meth c H locs cells slots arr E hR hlo hc hs hl hn)
theorem jm_ifnull {x : Nat} {off : Int} (hd : decode μ.2.1 pc = .ok (.ifnull off, 3)) (k : jm_W Γ μ d rc rs Q (pc + 3) ls st h) : jm_W Γ μ d rc rs Q pc ls (.ref x :: st) h := by
  intro p e R s m args below meth c H locs cells slots arr E hR hlo hc hs hl hn
  exact lv_ifnull E.1 E.2.1 hd (k p e R s m args below meth c H locs cells slots arr E hR hlo hc hs hl hn)
theorem jm_ifnullN {off : Int} (tgt : Nat) (hd : decode μ.2.1 pc = .ok (.ifnull off, 3)) (ht : (pc : Int) + off = (tgt : Int)) (k : jm_W Γ μ d rc rs Q tgt ls st h) : jm_W Γ μ d rc rs Q pc ls (.null :: st) h := by
  intro p e R s m args below meth c H locs cells slots arr E hR hlo hc hs hl hn
  exact lv_ifnullN E.1 E.2.1 hd ht (k p e R s m args below meth c H locs cells slots arr E hR hlo hc hs hl hn)
theorem jm_ifnonnull {x : Nat} {off : Int} (tgt : Nat) (hd : decode μ.2.1 pc = .ok (.ifnonnull off, 3)) (ht : (pc : Int) + off = (tgt : Int)) (k : jm_W Γ μ d rc rs Q tgt ls st h) : jm_W Γ μ d rc rs Q pc ls (.ref x :: st) h := by
  intro p e R s m args below meth c H locs cells slots arr E hR hlo hc hs hl hn
  exact lv_ifnonnull E.1 E.2.1 hd ht (k p e R s m args below meth c H locs cells slots arr E hR hlo hc hs hl hn)
theorem jm_ifnonnullN {off : Int} (hd : decode μ.2.1 pc = .ok (.ifnonnull off, 3)) (k : jm_W Γ μ d rc rs Q (pc + 3) ls st h) : jm_W Γ μ d rc rs Q pc ls (.null :: st) h := by
  intro p e R s m args below meth c H locs cells slots arr E hR hlo hc hs hl hn
  exact lv_ifnonnullN E.1 E.2.1 hd (k p e R s m args below meth c H locs cells slots arr E hR hlo hc hs hl hn)
theorem jm_acmp_eq {x y : Nat} {off : Int} (tgt : Nat) (hd : decode μ.2.1 pc = .ok (.if_acmp .eq off, 3)) (ht : (pc : Int) + off = (tgt : Int)) (kt : x = y → jm_W Γ μ d rc rs Q tgt ls st h) (kf : ¬ (x = y) → jm_W Γ μ d rc rs Q (pc + 3) ls st h) : jm_W Γ μ d rc rs Q pc ls (.ref y :: .ref x :: st) h := by
  intro p e R s m args below meth c H locs cells slots arr E hR hlo hc hs hl hn
  exact lv_acmp_eq (rx := some x) (ry := some y) E.1 E.2.1 hd ht (fun q => kt (by simpa using q) p e R s m args below meth c H locs cells slots arr E hR hlo hc hs hl hn) (fun q => kf (by simpa using q) p e R s m args below meth c H locs cells slots arr E hR hlo hc hs hl hn)
theorem jm_acmp_ne {x y : Nat} {off : Int} (tgt : Nat) (hd : decode μ.2.1 pc = .ok (.if_acmp .ne off, 3)) (ht : (pc : Int) + off = (tgt : Int)) (kt : ¬ x = y → jm_W Γ μ d rc rs Q tgt ls st h) (kf : ¬ (¬ x = y) → jm_W Γ μ d rc rs Q (pc + 3) ls st h) : jm_W Γ μ d rc rs Q pc ls (.ref y :: .ref x :: st) h := by
  intro p e R s m args below meth c H locs cells slots arr E hR hlo hc hs hl hn
  exact lv_acmp_ne (rx := some x) (ry := some y) E.1 E.2.1 hd ht (fun q => kt (by simpa using q) p e R s m args below meth c H locs cells slots arr E hR hlo hc hs hl hn) (fun q => kf (by simpa using q) p e R s m args below meth c H locs cells slots arr E hR hlo hc hs hl hn)
theorem jm_tableIn {dflt lo hi : Int} {offs : Array Int} {len : Nat} {x : Int32} {off : Int} (tgt : Nat) (hd : decode μ.2.1 pc = .ok (.tableswitch dflt lo hi offs, len)) (h1 : ¬ x.toInt < lo) (h2 : ¬ hi < x.toInt) (ho : offs[(x.toInt - lo).toNat]? = some off) (ht : (pc : Int) + off = (tgt : Int)) (k : jm_W Γ μ d rc rs Q tgt ls st h) : jm_W Γ μ d rc rs Q pc ls (.int x :: st) h := by
  intro p e R s m args below meth c H locs cells slots arr E hR hlo hc hs hl hn
  exact lv_tableIn E.1 E.2.1 hd h1 h2 ho ht (k p e R s m args below meth c H locs cells slots arr E hR hlo hc hs hl hn)
theorem jm_tableOut {dflt lo hi : Int} {offs : Array Int} {len : Nat} {x : Int32} (tgt : Nat) (hd : decode μ.2.1 pc = .ok (.tableswitch dflt lo hi offs, len)) (h1 : x.toInt < lo ∨ hi < x.toInt) (ht : (pc : Int) + dflt = (tgt : Int)) (k : jm_W Γ μ d rc rs Q tgt ls st h) : jm_W Γ μ d rc rs Q pc ls (.int x :: st) h := by
  intro p e R s m args below meth c H locs cells slots arr E hR hlo hc hs hl hn
  exact lv_tableOut E.1 E.2.1 hd h1 ht (k p e R s m args below meth c H locs cells slots arr E hR hlo hc hs hl hn)
end
