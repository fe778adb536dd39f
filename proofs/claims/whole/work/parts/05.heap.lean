/-! ROWS that read, write and make cells, over jm_W -/
section
/-- the pool's entry idx of the class own is the field j of class number ci -/
def jm_FL (own : String) (idx ci j : Nat) (fin : Bool) (ty : FieldType) : Prop :=
  ∃ (C : String) (T : u_T) (N : Nat), jm_cl[ci]? = some (C, T, N) ∧ j < N ∧ (T j).2.2.2 = fin ∧ parseFieldDescriptor (T j).2.2.1 = some ty ∧ Cond.fieldLink own idx (T j).1 (T j).2.1 (T j).2.2.1 ∈ jm_ws ∧ (fin = true → (T j).1 = own)
theorem jm_lt {α : Type} {l : List α} {i : Nat} {x : α} (h : l[i]? = some x) (hl : l.length ≤ 100) : i < 100 := Nat.lt_of_lt_of_le (List.getElem?_eq_some_iff.mp h).1 hl
variable {Γ : jm_G} {U : State} {h : jm_H} {H H1 : Heap}
/-- one cell changes -/
theorem jm_R.put {t i a : Nat} {v : Value} (hR : jm_R Γ U h H) (hb : jm_b Γ ≤ a) (hz : H1.size = H.size) (oq : ∀ q : Nat, q ≠ a → H1[q]? = H[q]?)
    (ho : ∀ k n, h.1 a = some (k, n) → k < 100 → ∃ r : vw_C, jm_cl[k]? = some r ∧ t_OB a (jm_dC Γ k) r.2.2 (jm_dI Γ k) H1 (fun j => (jm_set h t i a v).2 k j a))
    (hr : ∀ k n, h.1 a = some (k, n) → 100 ≤ k → k < 150 → H1[a]? = some (arrV (jm_dA Γ (k - 100)) n (fun j => (jm_set h t i a v).2 100 j a)))
    (hx : ∀ k n, h.1 a = some (k, n) → k < 150) (hns : ∀ cell : Cell, H1[a]? = some cell → cell.vm.isStatics = false) : jm_R Γ U (jm_set h t i a v) H1 := by
  obtain ⟨h1, h2, h9, h3⟩ := hR
  have hset : ∀ (a' : Nat), a' ≠ a → ∀ (t' i' : Nat), (jm_set h t i a v).2 t' i' a' = h.2 t' i' a' := fun a' ha' t' i' => by
    show (if t' = t ∧ i' = i ∧ a' = a then v else h.2 t' i' a') = _
    rw [if_neg (fun q => ha' q.2.2)]
  refine ⟨by rw [hz]; exact h1, fun a' ha' => ?_, fun a' cell ha' hcell => ?_, fun a' k n hk => ?_⟩
  · rw [oq a' (fun q => by omega)]
    exact h2 a' ha'
  · by_cases haa : a' = a
    · subst haa
      exact hns cell hcell
    · rw [oq a' haa] at hcell
      exact h9 a' cell ha' hcell
  · have hk' : h.1 a' = some (k, n) := hk
    obtain ⟨q1, q2, q3⟩ := h3 a' k n hk'
    by_cases haa : a' = a
    · subst haa
      exact ⟨fun hlt => ⟨hb, ho k n hk' hlt⟩, fun g1 g2 => ⟨hb, (q2 g1 g2).2.1, hr k n hk' g1 g2⟩, fun g => absurd (hx k n hk') (by omega)⟩
    · have hq := oq a' haa
      refine ⟨fun hlt => ?_, fun g1 g2 => ?_, fun g => ?_⟩
      · obtain ⟨b1, r, b2, b3⟩ := q1 hlt
        exact ⟨b1, r, b2, (b3.kept hq).to (fun j _ => (hset a' haa k j).symm)⟩
      · obtain ⟨b1, b2, b3⟩ := q2 g1 g2
        refine ⟨b1, b2, ?_⟩
        rw [hq, b3]
        congr 2
        funext j
        exact (hset a' haa 100 j).symm
      · obtain ⟨b1, xs, b2, b3⟩ := q3 g
        exact ⟨b1, xs, b2.kept hq, fun j hj => (hset a' haa 100 j).trans (b3 j hj)⟩
/-- a cell comes -/
theorem jm_R.born {kn : Nat × Nat} {dv : Nat → Value} (hR : jm_R Γ U h H) (hz : H1.size = H.size + 1) (oq : ∀ q : Nat, q < H.size → H1[q]? = H[q]?) (hk9 : kn.1 < 150) (hn9 : kn.2 < 2 ^ 31)
    (ho : kn.1 < 100 → ∃ r : vw_C, jm_cl[kn.1]? = some r ∧ t_OB H.size (jm_dC Γ kn.1) r.2.2 (jm_dI Γ kn.1) H1 dv)
    (hr : 100 ≤ kn.1 → H1[H.size]? = some (arrV (jm_dA Γ (kn.1 - 100)) kn.2 dv)) : h.1 H.size = none ∧ jm_R Γ U (jm_new h H.size kn dv) H1 := by
  obtain ⟨h1, h2, h9, h3⟩ := hR
  have hlt : ∀ a k n, h.1 a = some (k, n) → a < H.size := by
    intro a k n hk
    obtain ⟨q1, q2, q3⟩ := h3 a k n hk
    by_cases g1 : k < 100
    · obtain ⟨-, r, -, cell, b, -⟩ := q1 g1
      exact (Array.getElem?_eq_some_iff.mp b).1
    · by_cases g2 : k < 150
      · exact (Array.getElem?_eq_some_iff.mp (q2 (by omega) g2).2.2).1
      · obtain ⟨-, xs, ⟨scr, b, -⟩, -⟩ := q3 (by omega)
        exact (Array.getElem?_eq_some_iff.mp b).1
  have hfresh : h.1 H.size = none := by
    cases hq : h.1 H.size with
    | none => rfl
    | some q => exact absurd (hlt _ q.1 q.2 hq) (Nat.lt_irrefl _)
  refine ⟨hfresh, by omega, fun a ha => (oq a (by omega)).trans (h2 a ha), fun a cell ha hcell => ?_, fun a k n hk => ?_⟩
  · by_cases haa : a = H.size
    · subst haa
      by_cases g : kn.1 < 100
      · obtain ⟨r, -, cell', b1, -, b2, -⟩ := ho g
        cases hcell.symm.trans b1
        rw [b2]
        rfl
      · cases hcell.symm.trans (hr (by omega))
        rfl
    · have hlt' : a < H1.size := (Array.getElem?_eq_some_iff.mp hcell).1
      rw [oq a (by omega)] at hcell
      exact h9 a cell ha hcell
  by_cases haa : a = H.size
  · subst haa
    have hk' : kn = (k, n) := by
      have : (if H.size = H.size then some kn else h.1 H.size) = some (k, n) := hk
      rw [if_pos rfl] at this
      exact Option.some.inj this
    have hd : ∀ t j, (jm_new h H.size kn dv).2 t j H.size = dv j := fun t j => by
      show (if H.size = H.size then dv j else _) = _
      rw [if_pos rfl]
    subst hk'
    refine ⟨fun g => ?_, fun g1 g2 => ?_, fun g => absurd hk9 (by omega)⟩
    · obtain ⟨r, b1, b2⟩ := ho g
      exact ⟨h1, r, b1, b2.to (fun j _ => (hd _ j).symm)⟩
    · refine ⟨h1, hn9, ?_⟩
      rw [hr g1]
      congr 2
      funext j
      exact (hd 100 j).symm
  · have hk' : h.1 a = some (k, n) := by
      have : (if a = H.size then some kn else h.1 a) = some (k, n) := hk
      rwa [if_neg haa] at this
    have hd : ∀ t j, (jm_new h H.size kn dv).2 t j a = h.2 t j a := fun t j => by
      show (if a = H.size then dv j else _) = _
      rw [if_neg haa]
    have hq := oq a (hlt a k n hk')
    obtain ⟨q1, q2, q3⟩ := h3 a k n hk'
    refine ⟨fun g => ?_, fun g1 g2 => ?_, fun g => ?_⟩
    · obtain ⟨b1, r, b2, b3⟩ := q1 g
      exact ⟨b1, r, b2, (b3.kept hq).to (fun j _ => (hd k j).symm)⟩
    · obtain ⟨b1, b2, b3⟩ := q2 g1 g2
      refine ⟨b1, b2, ?_⟩
      rw [hq, b3]
      congr 2
      funext j
      exact (hd 100 j).symm
    · obtain ⟨b1, xs, b2, b3⟩ := q3 g
      exact ⟨b1, xs, b2.kept hq, fun j hj => (hd 100 j).trans (b3 j hj)⟩
end
section
variable {Γ : jm_G} {μ : jm_Mt} {d rc rs : Nat} {Q : jm_O → jm_H → Prop} {pc : Nat} {ls : List (Option Value)} {st : List Value} {h : jm_H}
theorem jm_locs {b : Nat} {locs : List Loc} {a k : Nat} (hlo : ∀ q ∈ locs, b ≤ q.base) (ha : b ≤ a) : ∀ q ∈ locs ++ [(⟨a, k⟩ : Loc)], b ≤ q.base := by
  intro q hq
  rcases List.mem_append.mp hq with h1 | h1
  · exact hlo q h1
  · rw [List.mem_singleton.mp h1]
    exact ha
theorem jm_getf {idx ci j n a : Nat} {fin : Bool} {ty : FieldType} (hd : decode μ.2.1 pc = .ok (.getfield idx, 3)) (hf : jm_FL μ.1.cls idx ci j fin ty) (ha : h.1 a = some (ci, n))
    (k : jm_W Γ μ d rc rs Q (pc + 3) ls (h.2 ci j a :: st) h) : jm_W Γ μ d rc rs Q pc ls (.ref a :: st) h := by
  intro p e R s m args below meth c H locs cells slots arr E hR hlo hc hs hl hn
  obtain ⟨C, T, N, f1, f2, f3, f4, f5, f6⟩ := hf
  obtain ⟨hx, hb, hr, hml, hown, hts, hC, -⟩ := id E
  obtain ⟨hb0, r, g1, cell, g2, g3, g4, g5⟩ := (hR.2.2.2 a ci n ha).1 (jm_lt f1 jm_cl_len)
  cases Option.some.inj (g1.symm.trans f1)
  obtain ⟨hin, -, -⟩ := jm_clok ci C T N f1
  obtain ⟨hS, hfc, kC, hkC, hkind⟩ := hC.1.1 ci _ f1
  obtain ⟨cf, kf, fi, f, hi, hsl⟩ := hS j f2
  exact W.getf hx hb hown (hts _ f5) hi (u_facts hfc hkC (u_lays hts hin f2) hi).1 g2 (by rw [g4]; exact fun z => by cases z) (v := h.2 ci j a) (by rw [hsl]; exact g5 j f2) rfl rfl hd (k p e R s m args below meth c H locs cells slots arr E hR hlo hc hs hl hn)
theorem jm_putf {idx ci j n a : Nat} {ty : FieldType} {v : Value} (hd : decode μ.2.1 pc = .ok (.putfield idx, 3)) (hf : jm_FL μ.1.cls idx ci j false ty) (ha : h.1 a = some (ci, n)) (hnar : narrow ty v = v) (hfit : fits ty v = true)
    (k : jm_W Γ μ d rc rs Q (pc + 3) ls st (jm_set h ci j a v)) : jm_W Γ μ d rc rs Q pc ls (v :: .ref a :: st) h := by
  intro p e R s m args below meth c H locs cells slots arr E hR hlo hc hs hl hn
  obtain ⟨C, T, N, f1, f2, f3, f4, f5, f6⟩ := hf
  obtain ⟨hx, hb, hr, hml, hown, hts, hC, -⟩ := id E
  have hci := jm_lt f1 jm_cl_len
  obtain ⟨hb0, r, g1, cell, g2, g3, g4, g5⟩ := (hR.2.2.2 a ci n ha).1 hci
  cases Option.some.inj (g1.symm.trans f1)
  obtain ⟨hin, ⟨ty0, hty⟩, hnm⟩ := jm_clok ci C T N f1
  have hap := va_apart (own := C) hts hin ty0 hty hnm hC.1 f1
  obtain ⟨hS, hfc, kC, hkC, hkind⟩ := hC.1.1 ci _ f1
  obtain ⟨cf, kf, fi, f, hi, hsl⟩ := hS j f2
  have hlay := hts _ (hin _ (u_in_lay f2))
  unfold u_lay at hlay
  rw [if_neg (by rw [f3]; decide)] at hlay
  have hst := (u_facts hfc hkC (u_lays hts hin f2) hi).1
  have h6 := u_store hfc hkC hkind hlay hi f4 hnar hfit
  refine W.putK hx hb (f := f) ⟨hown, hts _ f5, ⟨_, _, _, hi⟩, hst⟩ (by rw [g3]; exact h6) g2 g4 (by rw [hsl]; exact k2_hasslot (g5 j f2)) rfl rfl hd fun H' e1 e2 e3 => ?_
  rw [hsl] at e1
  refine k p e R s m args below meth c H' _ cells slots arr E (hR.put hb0 e2 e3 (fun k' n' hk' _ => ?_) (fun k' n' hk' q1 _ => ?_) (fun k' n' hk' => ?_) (fun cell9 hc9 => ?_)) (jm_locs hlo hb0) hc hs hl hn
  · cases ha.symm.trans hk'
    refine ⟨_, f1, t_OB.to (V := updV (fun j => h.2 ci j a) j v) ⟨_, e1, g3, g4, t_set g5 hap f2 v⟩ (fun j' _ => ?_)⟩
    show updV (fun j => h.2 ci j a) j v j' = if ci = ci ∧ j' = j ∧ a = a then v else h.2 ci j' a
    simp [updV]
  · cases ha.symm.trans hk'
    omega
  · cases ha.symm.trans hk'
    omega
  · cases hc9.symm.trans e1
    show cell.vm.isStatics = false
    rw [g4]
    rfl
theorem jm_putF {idx ci j n a : Nat} {ty : FieldType} {v : Value} (hd : decode μ.2.1 pc = .ok (.putfield idx, 3)) (hf : jm_FL μ.1.cls idx ci j true ty) (hinit : μ.1.name = "<init>") (ha : h.1 a = some (ci, n)) (hnar : narrow ty v = v) (hfit : fits ty v = true)
    (k : jm_W Γ μ d rc rs Q (pc + 3) ls st (jm_set h ci j a v)) : jm_W Γ μ d rc rs Q pc ls (v :: .ref a :: st) h := by
  intro p e R s m args below meth c H locs cells slots arr E hR hlo hc hs hl hn
  obtain ⟨C, T, N, f1, f2, f3, f4, f5, f6⟩ := hf
  obtain ⟨hx, hb, hr, hml, hown, hts, hC, hlk, hnm0, -⟩ := id E
  have hci := jm_lt f1 jm_cl_len
  obtain ⟨hb0, r, g1, cell, g2, g3, g4, g5⟩ := (hR.2.2.2 a ci n ha).1 hci
  cases Option.some.inj (g1.symm.trans f1)
  obtain ⟨hin, ⟨ty0, hty⟩, hnm⟩ := jm_clok ci C T N f1
  have hap := va_apart (own := C) hts hin ty0 hty hnm hC.1 f1
  obtain ⟨hS, hfc, kC, hkC, hkind⟩ := hC.1.1 ci _ f1
  obtain ⟨cf, kf, fi, f, hi, hsl⟩ := hS j f2
  have hlay := hts _ (hin _ (u_in_lay f2))
  unfold u_lay at hlay
  rw [if_pos f3] at hlay
  have hst := (u_facts hfc hkC (u_lays hts hin f2) hi).1
  have hcf : m.cls = cf := by
    obtain ⟨_, _, c', _, _, _, -, -, hf', -, -, -, hown2, -⟩ := Cond.laysFinal_spec hlay
    have e1 : c' = cf := by have := hi.symm.trans hf'; simp at this; exact this.1.symm
    rw [f6 rfl] at hown2
    rw [← e1]; exact Option.some.inj (hown.symm.trans hown2)
  have h6 := u_fits hfc hkC hkind (Or.inr hlay) hi f4 hnar hfit
  refine W.putFinK hx hb hown (hts _ f5) hi hst hcf (hnm0.trans hinit) (by rw [g3]; exact h6) g2 g4 (by rw [hsl]; exact k2_hasslot (g5 j f2)) rfl rfl hd fun H' e1 e2 e3 => ?_
  rw [hsl] at e1
  refine k p e R s m args below meth c H' _ cells slots arr E (hR.put hb0 e2 e3 (fun k' n' hk' _ => ?_) (fun k' n' hk' q1 _ => ?_) (fun k' n' hk' => ?_) (fun cell9 hc9 => ?_)) (jm_locs hlo hb0) hc hs hl hn
  · cases ha.symm.trans hk'
    refine ⟨_, f1, t_OB.to (V := updV (fun j => h.2 ci j a) j v) ⟨_, e1, g3, g4, t_set g5 hap f2 v⟩ (fun j' _ => ?_)⟩
    show updV (fun j => h.2 ci j a) j v j' = if ci = ci ∧ j' = j ∧ a = a then v else h.2 ci j' a
    simp [updV]
  · cases ha.symm.trans hk'
    omega
  · cases ha.symm.trans hk'
    omega
  · cases hc9.symm.trans e1
    show cell.vm.isStatics = false
    rw [g4]
    rfl
/-- what an array's cell is -/
theorem jm_arr {s : State} {H : Heap} {k n a : Nat} (hR : jm_R Γ s h H) (hC : jm_C Γ s) (hk : k < 7) (ha : h.1 a = some (100 + k, n)) :
    jm_b Γ ≤ a ∧ n < 2 ^ 31 ∧ H[a]? = some (arrV (jm_dA Γ k) n (fun i => h.2 100 i a)) ∧ s.isArrayOf (arrV (jm_dA Γ k) n (fun i => h.2 100 i a)) (jm_ty k) ∧ va_RA s (jm_dA Γ k) (jm_ty k) := by
  obtain ⟨h1, h2, h3⟩ := (hR.2.2.2 a _ n ha).2.1 (by omega) (by omega)
  have hq : (jm_tys Γ)[k]? = some (jm_dA Γ k, jm_ty k) := by
    unfold jm_tys
    rw [List.getElem?_map, List.getElem?_range hk]
    rfl
  obtain ⟨g1, g2⟩ := hC.1.2 k _ hq
  rw [show 100 + k - 100 = k by omega] at h3
  exact ⟨h1, h2, h3, g1 n _, g2⟩
end
