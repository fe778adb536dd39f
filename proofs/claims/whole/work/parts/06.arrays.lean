/-! ROWS of arrays, constants, casts. Written by wip/whole/gen/arrays.py -/
section
variable {Γ : jm_G} {μ : jm_Mt} {d rc rs : Nat} {Q : jm_O → jm_H → Prop} {pc : Nat} {ls : List (Option Value)} {st : List Value} {h : jm_H}
theorem jm_iaload {i : Int32} {n a : Nat} (hd : decode μ.2.1 pc = .ok (.iaload, 1)) (ha : h.1 a = some (100, n)) (hi : vp_in i n) (k : jm_W Γ μ d rc rs Q (pc + 1) ls (h.2 100 i.toNatClampNeg a :: st) h) : jm_W Γ μ d rc rs Q pc ls (.int i :: .ref a :: st) h := by
  intro p e R s m args below meth c H locs cells slots arr E hR hlo hc hs hl hn
  obtain ⟨hx, hb, hr, hml, hown, hts, hC, -⟩ := id E
  obtain ⟨-, -, g1, g2, -⟩ := jm_arr (k := 0) hR hC (by decide) ha
  have hlt : i.toNatClampNeg < n := Nat.not_le.mp fun q => hi (Or.inr q)
  exact W.iald (v := h.2 100 i.toNatClampNeg a) hx hb g1 g2 (fun q => by cases q) (by rw [arrV_size]; exact hi) (by rw [arrV_read _ _ hlt]) rfl rfl hd (k p e R s m args below meth c H locs cells slots arr E hR hlo hc hs hl hn)
theorem jm_baload {i : Int32} {n a : Nat} (hd : decode μ.2.1 pc = .ok (.baload, 1)) (ha : h.1 a = some (101, n)) (hi : vp_in i n) (k : jm_W Γ μ d rc rs Q (pc + 1) ls (h.2 100 i.toNatClampNeg a :: st) h) : jm_W Γ μ d rc rs Q pc ls (.int i :: .ref a :: st) h := by
  intro p e R s m args below meth c H locs cells slots arr E hR hlo hc hs hl hn
  obtain ⟨hx, hb, hr, hml, hown, hts, hC, -⟩ := id E
  obtain ⟨-, -, g1, g2, -⟩ := jm_arr (k := 1) hR hC (by decide) ha
  have hlt : i.toNatClampNeg < n := Nat.not_le.mp fun q => hi (Or.inr q)
  exact W.zald (v := h.2 100 i.toNatClampNeg a) hx hb g1 g2 (fun q => by cases q) (by rw [arrV_size]; exact hi) (by rw [arrV_read _ _ hlt]) rfl rfl hd (k p e R s m args below meth c H locs cells slots arr E hR hlo hc hs hl hn)
theorem jm_laload {i : Int32} {n a : Nat} (hd : decode μ.2.1 pc = .ok (.laload, 1)) (ha : h.1 a = some (102, n)) (hi : vp_in i n) (k : jm_W Γ μ d rc rs Q (pc + 1) ls (h.2 100 i.toNatClampNeg a :: st) h) : jm_W Γ μ d rc rs Q pc ls (.int i :: .ref a :: st) h := by
  intro p e R s m args below meth c H locs cells slots arr E hR hlo hc hs hl hn
  obtain ⟨hx, hb, hr, hml, hown, hts, hC, -⟩ := id E
  obtain ⟨-, -, g1, g2, -⟩ := jm_arr (k := 2) hR hC (by decide) ha
  have hlt : i.toNatClampNeg < n := Nat.not_le.mp fun q => hi (Or.inr q)
  exact W.lald (v := h.2 100 i.toNatClampNeg a) hx hb g1 g2 (fun q => by cases q) (by rw [arrV_size]; exact hi) (by rw [arrV_read _ _ hlt]) rfl rfl hd (k p e R s m args below meth c H locs cells slots arr E hR hlo hc hs hl hn)
theorem jm_aaload (kd : Nat) {i : Int32} {n a : Nat} (hd : decode μ.2.1 pc = .ok (.aaload, 1)) (hkd : kd < 7) (hty : (jm_ty kd).isReference = true) (ha : h.1 a = some (100 + kd, n)) (hi : vp_in i n) (k : jm_W Γ μ d rc rs Q (pc + 1) ls (h.2 100 i.toNatClampNeg a :: st) h) : jm_W Γ μ d rc rs Q pc ls (.int i :: .ref a :: st) h := by
  intro p e R s m args below meth c H locs cells slots arr E hR hlo hc hs hl hn
  obtain ⟨hx, hb, hr, hml, hown, hts, hC, -⟩ := id E
  obtain ⟨-, -, g1, g2, -⟩ := jm_arr (k := kd) hR hC hkd ha
  have hlt : i.toNatClampNeg < n := Nat.not_le.mp fun q => hi (Or.inr q)
  exact W.aald (v := h.2 100 i.toNatClampNeg a) (ty := jm_ty kd) hx hb g1 g2 hty (fun q => by cases q) (by rw [arrV_size]; exact hi) (by rw [arrV_read _ _ hlt]) rfl rfl hd (k p e R s m args below meth c H locs cells slots arr E hR hlo hc hs hl hn)
theorem jm_sload {i : Int32} {n a : Nat} (hd : decode μ.2.1 pc = .ok (.iaload, 1)) (ha : h.1 a = some (150, n)) (hi : vp_in i n) (k : jm_W Γ μ d rc rs Q (pc + 1) ls (h.2 100 i.toNatClampNeg a :: st) h) : jm_W Γ μ d rc rs Q pc ls (.int i :: .ref a :: st) h := by
  intro p e R s m args below meth c H locs cells slots arr E hR hlo hc hs hl hn
  obtain ⟨hx, hb, hr, hml, hown, hts, hC, -⟩ := id E
  obtain ⟨-, xs, ⟨scr, q1, q2, q3, q4, q5⟩, q6⟩ := (hR.2.2.2 a _ n ha).2.2 (by decide)
  have hlt : i.toNatClampNeg < n := Nat.not_le.mp fun q => hi (Or.inr q)
  exact W.iald (v := h.2 100 i.toNatClampNeg a) hx hb q1 q2 q3 (by rw [q4]; exact hi) (by rw [q6 _ hlt]; exact q5 _ hlt) rfl rfl hd (k p e R s m args below meth c H locs cells slots arr E hR hlo hc hs hl hn)
theorem jm_slen {n a : Nat} (hd : decode μ.2.1 pc = .ok (.arraylength, 1)) (ha : h.1 a = some (150, n)) (k : jm_W Γ μ d rc rs Q (pc + 1) ls (.int (nI n) :: st) h) : jm_W Γ μ d rc rs Q pc ls (.ref a :: st) h := by
  intro p e R s m args below meth c H locs cells slots arr E hR hlo hc hs hl hn
  obtain ⟨hx, hb, hr, hml, hown, hts, hC, -⟩ := id E
  obtain ⟨-, xs, ⟨scr, q1, q2, q3, q4, q5⟩, q6⟩ := (hR.2.2.2 a _ n ha).2.2 (by decide)
  exact W.alen (n := nI n) hx hb q1 q2 (by rw [q4] <;> rfl) rfl rfl hd (k p e R s m args below meth c H locs cells slots arr E hR hlo hc hs hl hn)
theorem jm_alen (kd : Nat) {n a : Nat} (hd : decode μ.2.1 pc = .ok (.arraylength, 1)) (hkd : kd < 7) (ha : h.1 a = some (100 + kd, n)) (k : jm_W Γ μ d rc rs Q (pc + 1) ls (.int (nI n) :: st) h) : jm_W Γ μ d rc rs Q pc ls (.ref a :: st) h := by
  intro p e R s m args below meth c H locs cells slots arr E hR hlo hc hs hl hn
  obtain ⟨hx, hb, hr, hml, hown, hts, hC, -⟩ := id E
  obtain ⟨-, -, g1, g2, -⟩ := jm_arr (k := kd) hR hC hkd ha
  exact W.alen (n := nI n) hx hb g1 g2 (by rw [arrV_size] <;> rfl) rfl rfl hd (k p e R s m args below meth c H locs cells slots arr E hR hlo hc hs hl hn)
theorem jm_iastore {i : Int32} {n a : Nat} {x : Int32} (hd : decode μ.2.1 pc = .ok (.iastore, 1)) (ha : h.1 a = some (100, n)) (hi : vp_in i n) (k : jm_W Γ μ d rc rs Q (pc + 1) ls st (jm_set h 100 i.toNatClampNeg a (.int x))) : jm_W Γ μ d rc rs Q pc ls (.int x :: .int i :: .ref a :: st) h := by
  intro p e R s m args below meth c H locs cells slots arr E hR hlo hc hs hl hn
  obtain ⟨hx, hb, hr, hml, hown, hts, hC, -⟩ := id E
  obtain ⟨hb0, -, g1, g2, -⟩ := jm_arr (k := 0) hR hC (by decide) ha
  refine W.iast hx hb g1 g2 (fun q => by cases q) (by rw [arrV_size]; exact hi) rfl rfl hd fun H1 e1 z oq => ?_
  refine k p e R s m args below meth c H1 _ cells slots arr E (hR.put hb0 z oq (fun k' n' hk' q1 => ?_) (fun k' n' hk' q1 _ => ?_) (fun k' n' hk' => ?_) (fun cell9 hc9 => ?_)) (jm_locs hlo hb0) hc hs hl hn
  · cases ha.symm.trans hk'
    omega
  · cases ha.symm.trans hk'
    rw [e1, arrV_store]
    congr 2
    funext q
    show updV (fun i => h.2 100 i a) i.toNatClampNeg _ q = if (100 : Nat) = 100 ∧ q = i.toNatClampNeg ∧ a = a then _ else h.2 100 q a
    simp [updV]
  · cases ha.symm.trans hk'
    omega
  · rw [e1, arrV_store] at hc9
    cases hc9
    rfl
theorem jm_lastore {i : Int32} {n a : Nat} {x : Int64} (hd : decode μ.2.1 pc = .ok (.lastore, 1)) (ha : h.1 a = some (102, n)) (hi : vp_in i n) (k : jm_W Γ μ d rc rs Q (pc + 1) ls st (jm_set h 100 i.toNatClampNeg a (.long x))) : jm_W Γ μ d rc rs Q pc ls (.long x :: .int i :: .ref a :: st) h := by
  intro p e R s m args below meth c H locs cells slots arr E hR hlo hc hs hl hn
  obtain ⟨hx, hb, hr, hml, hown, hts, hC, -⟩ := id E
  obtain ⟨hb0, -, g1, g2, -⟩ := jm_arr (k := 2) hR hC (by decide) ha
  refine W.last hx hb g1 g2 (fun q => by cases q) (by rw [arrV_size]; exact hi) rfl rfl hd fun H1 e1 z oq => ?_
  refine k p e R s m args below meth c H1 _ cells slots arr E (hR.put hb0 z oq (fun k' n' hk' q1 => ?_) (fun k' n' hk' q1 _ => ?_) (fun k' n' hk' => ?_) (fun cell9 hc9 => ?_)) (jm_locs hlo hb0) hc hs hl hn
  · cases ha.symm.trans hk'
    omega
  · cases ha.symm.trans hk'
    rw [e1, arrV_store]
    congr 2
    funext q
    show updV (fun i => h.2 100 i a) i.toNatClampNeg _ q = if (100 : Nat) = 100 ∧ q = i.toNatClampNeg ∧ a = a then _ else h.2 100 q a
    simp [updV]
  · cases ha.symm.trans hk'
    omega
  · rw [e1, arrV_store] at hc9
    cases hc9
    rfl
theorem jm_bastore {i : Int32} {n a : Nat} {x : Int32} (hd : decode μ.2.1 pc = .ok (.bastore, 1)) (ha : h.1 a = some (101, n)) (hi : vp_in i n) (k : jm_W Γ μ d rc rs Q (pc + 1) ls st (jm_set h 100 i.toNatClampNeg a (narrow .boolean (.int x)))) : jm_W Γ μ d rc rs Q pc ls (.int x :: .int i :: .ref a :: st) h := by
  intro p e R s m args below meth c H locs cells slots arr E hR hlo hc hs hl hn
  obtain ⟨hx, hb, hr, hml, hown, hts, hC, -⟩ := id E
  obtain ⟨hb0, -, g1, g2, -⟩ := jm_arr (k := 1) hR hC (by decide) ha
  refine W.zast hx hb g1 g2 (fun q => by cases q) (by rw [arrV_size]; exact hi) rfl rfl hd fun H1 e1 z oq => ?_
  refine k p e R s m args below meth c H1 _ cells slots arr E (hR.put hb0 z oq (fun k' n' hk' q1 => ?_) (fun k' n' hk' q1 _ => ?_) (fun k' n' hk' => ?_) (fun cell9 hc9 => ?_)) (jm_locs hlo hb0) hc hs hl hn
  · cases ha.symm.trans hk'
    omega
  · cases ha.symm.trans hk'
    rw [e1, arrV_store]
    congr 2
    funext q
    show updV (fun i => h.2 100 i a) i.toNatClampNeg _ q = if (100 : Nat) = 100 ∧ q = i.toNatClampNeg ∧ a = a then _ else h.2 100 q a
    simp [updV]
  · cases ha.symm.trans hk'
    omega
  · rw [e1, arrV_store] at hc9
    cases hc9
    rfl
theorem jm_aastore (kd : Nat) {i : Int32} {n a v ci n' : Nat} {r : vw_C} (hd : decode μ.2.1 pc = .ok (.aastore, 1)) (hkd : kd < 7) (ha : h.1 a = some (100 + kd, n)) (hi : vp_in i n) (hv : h.1 v = some (ci, n')) (hc9 : jm_cl[ci]? = some r) (hty : jm_ty kd = .object r.1) (k : jm_W Γ μ d rc rs Q (pc + 1) ls st (jm_set h 100 i.toNatClampNeg a (.ref v))) : jm_W Γ μ d rc rs Q pc ls (.ref v :: .int i :: .ref a :: st) h := by
  intro p e R s m args below meth c H locs cells slots arr E hR hlo hc hs hl hn
  obtain ⟨hx, hb, hr, hml, hown, hts, hC, -⟩ := id E
  obtain ⟨hb0, -, g1, g2, g3⟩ := jm_arr (k := kd) hR hC hkd ha
  have hlt : i.toNatClampNeg < n := Nat.not_le.mp fun q => hi (Or.inr q)
  have h0 : ¬ i < 0 := fun q => hi (Or.inl q)
  obtain ⟨-, r', f1, cellV, f2, f3, f4, -⟩ := (hR.2.2.2 v ci n' hv).1 (jm_lt hc9 jm_cl_len)
  have hcls := (hC.1.1 ci r hc9).2
  rw [hty] at g3
  obtain ⟨kA, comp, k1, k2, k3, -⟩ := g3
  have hcomp : comp = jm_dC Γ ci := Option.some.inj (k3.symm.trans hcls.1)
  subst hcomp
  obtain ⟨kC, hkC, -⟩ := hcls.2
  refine W.aast hx hb g1 (fun q h => by cases h) (fun h => by cases h) k1 k2 rfl hkC ⟨h0, by rw [arrV_size]; exact hlt⟩ f2 (fun q h => by rw [f4] at h; cases h) (by rw [f3]; exact hkC) (by rw [f3]; exact va_assign hcls) rfl rfl hd fun H1 e1 z oq => ?_
  refine k p e R s m args below meth c H1 _ cells slots arr E (hR.put hb0 z oq (fun k' n' hk' q1 => ?_) (fun k' n' hk' q1 _ => ?_) (fun k' n' hk' => ?_) (fun cell9 hc9 => ?_)) (jm_locs hlo hb0) hc hs hl hn
  · cases ha.symm.trans hk'
    omega
  · cases ha.symm.trans hk'
    rw [show 100 + kd - 100 = kd by omega, e1, arrV_store]
    congr 2
    funext q
    show updV (fun i => h.2 100 i a) i.toNatClampNeg _ q = if (100 : Nat) = 100 ∧ q = i.toNatClampNeg ∧ a = a then _ else h.2 100 q a
    simp [updV]
  · cases ha.symm.trans hk'
    omega
  · rw [e1, arrV_store] at hc9
    cases hc9
    rfl
theorem jm_aastoreN (kd : Nat) {i : Int32} {n a : Nat} {C : String} (hd : decode μ.2.1 pc = .ok (.aastore, 1)) (hkd : kd < 7) (ha : h.1 a = some (100 + kd, n)) (hi : vp_in i n) (hty : jm_ty kd = .object C) (k : jm_W Γ μ d rc rs Q (pc + 1) ls st (jm_set h 100 i.toNatClampNeg a .null)) : jm_W Γ μ d rc rs Q pc ls (.null :: .int i :: .ref a :: st) h := by
  intro p e R s m args below meth c H locs cells slots arr E hR hlo hc hs hl hn
  obtain ⟨hx, hb, hr, hml, hown, hts, hC, -⟩ := id E
  obtain ⟨hb0, -, g1, g2, g3⟩ := jm_arr (k := kd) hR hC hkd ha
  rw [hty] at g2
  refine va_WaastN (C := C) hx hb g1 g2 (fun h => by cases h) (by rw [arrV_size]; exact hi) rfl rfl hd fun H1 e1 z oq => ?_
  refine k p e R s m args below meth c H1 _ cells slots arr E (hR.put hb0 z oq (fun k' n' hk' q1 => ?_) (fun k' n' hk' q1 _ => ?_) (fun k' n' hk' => ?_) (fun cell9 hc9 => ?_)) (jm_locs hlo hb0) hc hs hl hn
  · cases ha.symm.trans hk'
    omega
  · cases ha.symm.trans hk'
    rw [show 100 + kd - 100 = kd by omega, e1, arrV_store]
    congr 2
    funext q
    show updV (fun i => h.2 100 i a) i.toNatClampNeg _ q = if (100 : Nat) = 100 ∧ q = i.toNatClampNeg ∧ a = a then _ else h.2 100 q a
    simp [updV]
  · cases ha.symm.trans hk'
    omega
  · rw [e1, arrV_store] at hc9
    cases hc9
    rfl
/-- a new array of numbers -/
theorem jm_newarray (kd : Nat) {at9 : ArrayType} {n : Int32} (hd : decode μ.2.1 pc = .ok (.newarray at9, 2)) (hkd : kd < 7) (hw : Cond.arrayClass (jm_ty kd) ∈ jm_ws) (hty : newarray.typeOf at9 = jm_ty kd) (hra : ∀ (U : State) (cA : ClassId), va_RA U cA (jm_ty kd) → U.vm.findClass ("[" ++ (jm_ty kd).toString) = some cA) (hn0 : ¬ n < 0) (hbt : n.toNatClampNeg * componentBytes (jm_ty kd) ≤ 536870912) (h1 : 1 ≤ rc) (h2 : n.toNatClampNeg ≤ rs)
    (k : ∀ q, h.1 q = none → jm_W Γ μ d (rc - 1) (rs - n.toNatClampNeg) Q (pc + 2) ls (.ref q :: st) (jm_new h q (100 + kd, n.toNatClampNeg) (fun _ => defaultValue (jm_ty kd)))) : jm_W Γ μ d rc rs Q pc ls (.int n :: st) h := by
  intro p e R s m args below meth c H locs cells slots arr E hR hlo hc hs hl hn
  obtain ⟨hx, hb, hr, hml, hown, hts, hC, -⟩ := id E
  have hq : (jm_tys Γ)[kd]? = some (jm_dA Γ kd, jm_ty kd) := by
    unfold jm_tys
    rw [List.getElem?_map, List.getElem?_range hkd]
    rfl
  have g2 := hra s _ (hC.1.2 kd _ hq).2
  have hn31 : n.toNatClampNeg < 2 ^ 31 := by
    have := Int32.toInt_lt n
    simp only [Int32.toNatClampNeg]
    omega
  refine va_newaK hx hb (by rw [hty]; exact hts _ hw) rfl hd rfl hn0 rfl (by rw [hty]; exact hbt) (by omega) (by omega) rfl fun H1 cA e1 z1 o1 hAr hNm => ?_
  rw [hty] at e1 hNm
  cases Option.some.inj (hNm.symm.trans g2)
  obtain ⟨b1, b2⟩ := hR.born (kn := (100 + kd, n.toNatClampNeg)) (dv := fun _ => defaultValue (jm_ty kd)) z1 o1 (by omega) hn31 (fun q => by omega) (fun _ => by rw [show 100 + kd - 100 = kd by omega]; exact e1)
  exact k H.size b1 p e R s m args below meth c H1 locs (cells + 1) (slots + n.toNatClampNeg) arr E b2 hlo (by omega) (by omega) hl hn
/-- a new array of references -/
theorem jm_anewarray (kd : Nat) {idx : Nat} {C : String} {n : Int32} (hd : decode μ.2.1 pc = .ok (.anewarray idx, 3)) (hkd : kd < 7) (hty : jm_ty kd = .object C) (hw1 : Cond.classLink μ.1.cls idx C ∈ jm_ws) (hw2 : Cond.arrayOver (.object C) ∈ jm_ws) (hn0 : ¬ n < 0) (hbt : n.toNatClampNeg * 4 ≤ 536870912) (h1 : 1 ≤ rc) (h2 : n.toNatClampNeg ≤ rs)
    (k : ∀ q, h.1 q = none → jm_W Γ μ d (rc - 1) (rs - n.toNatClampNeg) Q (pc + 3) ls (.ref q :: st) (jm_new h q (100 + kd, n.toNatClampNeg) (fun _ => .null))) : jm_W Γ μ d rc rs Q pc ls (.int n :: st) h := by
  intro p e R s m args below meth c H locs cells slots arr E hR hlo hc hs hl hn
  obtain ⟨hx, hb, hr, hml, hown, hts, hC, -⟩ := id E
  have hq : (jm_tys Γ)[kd]? = some (jm_dA Γ kd, jm_ty kd) := by
    unfold jm_tys
    rw [List.getElem?_map, List.getElem?_range hkd]
    rfl
  have g2 := (hC.1.2 kd _ hq).2
  rw [hty] at g2
  obtain ⟨kA0, comp0, -, -, -, g3⟩ := g2
  have hn31 : n.toNatClampNeg < 2 ^ 31 := by
    have := Int32.toInt_lt n
    simp only [Int32.toNatClampNeg]
    omega
  refine W.anew hx hb hown (hts _ hw1) (hts _ hw2) rfl hd rfl hn0 hbt (by omega) (by omega) fun cA kA comp f1 f2 f3 f4 => ?_
  cases Option.some.inj (f1.symm.trans g3)
  generalize hH1 : H.push ({ cls := jm_dA Γ kd, slots := Array.replicate n.toNatClampNeg .null, vm := .none } : Cell) = H1
  have z1 : H1.size = H.size + 1 := by rw [← hH1, Array.size_push]
  have e1 : H1[H.size]? = some (arrV (jm_dA Γ kd) n.toNatClampNeg (fun _ => .null)) := by rw [← hH1, Array.getElem?_push_size, ← arrV_new]
  have o1 : ∀ q : Nat, q < H.size → H1[q]? = H[q]? := fun q hq => by rw [← hH1, Array.getElem?_push, if_neg (Nat.ne_of_lt hq)]
  obtain ⟨b1, b2⟩ := hR.born (kn := (100 + kd, n.toNatClampNeg)) (dv := fun _ => .null) z1 o1 (by omega) hn31 (fun q => by omega) (fun _ => by rw [show 100 + kd - 100 = kd by omega]; exact e1)
  exact k H.size b1 p e R s m args below meth c H1 locs (cells + 1) (slots + n.toNatClampNeg) arr E b2 hlo (by omega) (by omega) hl hn
/-- a new object of one of our classes -/
theorem jm_newobj {idx ci N : Nat} {C : String} {T : u_T} {dv : Nat → Value} (hd : decode μ.2.1 pc = .ok (.new idx, 3)) (hcl : jm_cl[ci]? = some (C, T, N)) (hw1 : Cond.classLink μ.1.cls idx C ∈ jm_ws) (hw2 : Cond.instantiable C N ∈ jm_ws) (hw3 : Cond.initialized C ∈ jm_ws)
    (ty0 : Nat → FieldType) (hty : ∀ k, k < N → parseFieldDescriptor (T k).2.2.1 = some (ty0 k)) (hdv : ∀ j, j < N → defaultValue (ty0 j) = dv j) (h1 : 1 ≤ rc) (h2 : N ≤ rs)
    (k : ∀ q, h.1 q = none → jm_W Γ μ d (rc - 1) (rs - N) Q (pc + 3) ls (.ref q :: st) (jm_new h q (ci, 0) dv)) : jm_W Γ μ d rc rs Q pc ls st h := by
  intro p e R s m args below meth c H locs cells slots arr E hR hlo hc hs hl hn
  obtain ⟨hx, hb, hr, hml, hown, hts, hC, -⟩ := id E
  have hci := jm_lt hcl jm_cl_len
  obtain ⟨hin, -, -⟩ := jm_clok ci C T N hcl
  have hKn := hC.1.1 ci _ hcl
  refine W.newcK hx hb hown (hts _ hw1) (hts _ hw2) (hts _ hw3) rfl hd (by omega) (by omega) hKn.2.1 rfl fun H1 kC hkC e1 z1 o1 => ?_
  obtain ⟨b1, b2⟩ := hR.born (kn := (ci, 0)) (dv := dv) z1 o1 (by show ci < 150; omega) (by show (0 : Nat) < 2 ^ 31; decide) (fun _ => ⟨_, hcl, (u_born ty0 hts hin hKn hkC e1 hty).to hdv⟩) (fun q => absurd (show (100 : Nat) ≤ ci from q) (by omega))
  exact k H.size b1 p e R s m args below meth c H1 locs (cells + 1) (slots + N) arr E b2 hlo (by omega) (by omega) hl hn
/-- a constant of Stage -/
theorem jm_getE {idx i : Nat} (hd : decode μ.2.1 pc = .ok (.getstatic idx, 3)) (hi : i < 3) (hw : Cond.fieldLink μ.1.cls idx jm_en (jm_enm i) jm_ed ∈ jm_ws) (k : jm_W Γ μ d rc rs Q (pc + 3) ls (.ref (jm_eA Γ i) :: st) h) : jm_W Γ μ d rc rs Q pc ls st h := by
  intro p e R s m args below meth c H locs cells slots arr E hR hlo hc hs hl hn
  obtain ⟨hx, hb, hr, hml, hown, hts, hC, -⟩ := id E
  obtain ⟨cf, kf, fi, f, a, cell, h1, h2, h3, h4, h5, h6, h7, h8⟩ := hC.2.1 i hi
  exact W.gets hx hb hown (hts _ hw) h1 h2 h3 h4 (by rw [hR.2.1 a (Nat.not_le.mp h8)]; exact h5) (fun e => by rw [e] at h6; cases h6) h7 rfl hd (k p e R s m args below meth c H locs cells slots arr E hR hlo hc hs hl hn)
/-- an int constant of the pool -/
theorem jm_ldc {idx : Nat} {v : Int32} (hd : decode μ.2.1 pc = .ok (.ldc idx, 2)) (hw : Cond.constant μ.1.cls idx v ∈ jm_ws) (k : jm_W Γ μ d rc rs Q (pc + 2) ls (.int v :: st) h) : jm_W Γ μ d rc rs Q pc ls st h := by
  intro p e R s m args below meth c H locs cells slots arr E hR hlo hc hs hl hn
  obtain ⟨hx, hb, hr, hml, hown, hts, hC, -⟩ := id E
  exact lv_ldc hx hb hown (hts _ hw) hd (k p e R s m args below meth c H locs cells slots arr E hR hlo hc hs hl hn)
end
