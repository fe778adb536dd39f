/-! THE REFERENCE: a new one. Written by wip/whole/gen/p41.py -/
section
variable {Γ : jm_G} {μ : jm_Mt} {d rc rs : Nat} {Q : jm_O → jm_H → Prop} {pc : Nat} {ls : List (Option Value)} {st : List Value} {h h0 : jm_H} {m : Nat} {ar : Nat → Nat} {S : mS}
/-- the arrays of the fields below J are made -/
def mpo (h0 h : jm_H) (m : Nat) (ar : Nat → Nat) (S : mS) (J : Nat) : Prop :=
  h.1 m = some (6, 0) ∧ (∀ j, j < 42 → mo_len j = 0 → h.2 6 j m = .int (S j 0)) ∧ (∀ j, j < 42 → j < J → 0 < mo_len j → h.2 6 j m = .ref (ar j) ∧ h.1 (ar j) = some (mo_kd j, mo_len j) ∧ (∀ i, i < mo_len j → h.2 100 i (ar j) = .int (S j i)) ∧ h0.1 (ar j) = none) ∧
  (∀ i j, i < 42 → j < 42 → i < J → j < J → 0 < mo_len i → 0 < mo_len j → ar i = ar j → i = j) ∧ ∀ p, p ≠ m → h0.1 p ≠ none → h.1 p = h0.1 p ∧ ∀ t i, h.2 t i p = h0.2 t i p
theorem mr_ini (kd : Nat) {at9 : ArrayType} {n : Int32} {idx j J : Nat} {ty : FieldType} (hd : decode μ.2.1 pc = .ok (.newarray at9, 2)) (hd2 : decode μ.2.1 (pc + 2) = .ok (.putfield idx, 3)) (hf : jm_FL μ.1.cls idx 6 j true ty) (hinit : μ.1.name = "<init>") (hkd : kd < 2) (hw : Cond.arrayClass (jm_ty kd) ∈ jm_ws) (hty : newarray.typeOf at9 = jm_ty kd) (hra : ∀ (U : State) (cA : ClassId), va_RA U cA (jm_ty kd) → U.vm.findClass ("[" ++ (jm_ty kd).toString) = some cA)
    (hnar : ∀ q : Nat, narrow ty (.ref q) = .ref q) (hfit : ∀ q : Nat, fits ty (.ref q) = true) (hn : n = nI (mo_len j)) (hj : j < 42) (hl : 0 < mo_len j) (hk : mo_kd j = 100 + kd) (hJ : ∀ q, q < j → J ≤ q → mo_len q = 0) (hS : ∀ i, S j i = 0) (h1 : 1 ≤ rc) (h2 : mo_len j ≤ rs) (hm0 : h0.1 m ≠ none) (hp : mpo h0 h m ar S J)
    (k : ∀ h' ar', mpo h0 h' m ar' S (j + 1) → jm_W Γ μ d (rc - 1) (rs - mo_len j) Q (pc + 2 + 3) ls st h') : jm_W Γ μ d rc rs Q pc ls (.int n :: .ref m :: st) h := by
  have hle := mo_len_le j
  have hcl : n.toNatClampNeg = mo_len j := by rw [hn, nI_clamp (by omega)]
  have hcb : componentBytes (jm_ty kd) ≤ 8 := by
    cases kd with
    | zero => decide
    | succ q => cases q with
      | zero => decide
      | succ q => omega
  refine jm_newarray kd hd (by omega) hw hty hra (by rw [hn]; exact nI_pos (by omega)) (by rw [hcl]; exact Nat.le_trans (Nat.mul_le_mul hle hcb) (by decide)) h1 (by rw [hcl]; exact h2) (fun q hq => ?_)
  rw [hcl]
  obtain ⟨p1, p2, p3, p4, p5⟩ := hp
  have hqm : q ≠ m := fun e => by rw [e, p1] at hq; cases hq
  have hq0 : h0.1 q = none := by
    cases e : h0.1 q with
    | none => rfl
    | some z =>
      have := (p5 q hqm (by rw [e]; exact fun x => by cases x)).1
      rw [hq, e] at this
      cases this
  have hdf : defaultValue (jm_ty kd) = .int 0 := by
    cases kd with
    | zero => rfl
    | succ q => cases q with
      | zero => rfl
      | succ q => omega
  obtain ⟨ar2, e1, e2⟩ : ∃ ar2 : Nat → Nat, ar2 j = q ∧ ∀ j', j' ≠ j → ar2 j' = ar j' := ⟨fun j' => if j' = j then q else ar j', if_pos rfl, fun _ e => if_neg e⟩
  refine jm_putF hd2 hf hinit (n := 0) (by show (if m = q then _ else h.1 m) = _; rw [if_neg (Ne.symm hqm)]; exact p1) (hnar q) (hfit q) (k _ ar2 ⟨?_, ?_, ?_, ?_, ?_⟩)
  · show (if m = q then _ else h.1 m) = _
    rw [if_neg (Ne.symm hqm)]; exact p1
  · intro j' hj' hl'
    have hne : j' ≠ j := fun e => by rw [e] at hl'; omega
    show (if 6 = 6 ∧ j' = j ∧ m = m then _ else if m = q then _ else h.2 6 j' m) = _
    rw [if_neg (fun e => hne e.2.1), if_neg (Ne.symm hqm)]
    exact p2 j' hj' hl'
  · intro j' hj' hJ' hl'
    by_cases e : j' = j
    · subst e
      rw [e1]
      refine ⟨?_, ?_, ?_, hq0⟩
      · show (if 6 = 6 ∧ j' = j' ∧ m = m then _ else _) = _
        rw [if_pos ⟨rfl, rfl, rfl⟩]
      · show (if q = q then _ else _) = _
        rw [if_pos rfl, hk]
      · intro i hi
        simp [jm_set, jm_new, hdf, hS]
    · have hlt : j' < J := by
        rcases Nat.lt_or_ge j' J with z | z
        · exact z
        · have := hJ j' (by omega) z; omega
      obtain ⟨q1, q2, q3, q4⟩ := p3 j' hj' hlt hl'
      have hne : ar j' ≠ q := fun e => by rw [e, hq] at q2; cases q2
      rw [e2 j' e]
      refine ⟨?_, ?_, ?_, q4⟩
      · show (if 6 = 6 ∧ j' = j ∧ m = m then _ else if m = q then _ else h.2 6 j' m) = _
        rw [if_neg (fun x => e x.2.1), if_neg (Ne.symm hqm)]; exact q1
      · show (if ar j' = q then _ else _) = _
        rw [if_neg hne]; exact q2
      · intro i hi
        simp [jm_set, jm_new, hne, q3 i hi]
  · intro i i' hi hi' hb hb' hli hli' he
    have hlt : ∀ z, z < j + 1 → z ≠ j → 0 < mo_len z → z < J := by
      intro z z1 z2 z3
      rcases Nat.lt_or_ge z J with y | y
      · exact y
      · have := hJ z (by omega) y; omega
    by_cases e : i = j
    · by_cases e' : i' = j
      · rw [e, e']
      · rw [e, e1, e2 i' e'] at he
        have := (p3 i' hi' (hlt i' hb' e' hli') hli').2.1
        rw [← he, hq] at this; cases this
    · by_cases e' : i' = j
      · rw [e2 i e, e', e1] at he
        have := (p3 i hi (hlt i hb e hli) hli).2.1
        rw [he, hq] at this; cases this
      · rw [e2 i e, e2 i' e'] at he
        exact p4 i i' hi hi' (hlt i hb e hli) (hlt i' hb' e' hli') hli hli' he
  · intro p hpm hp0
    have hpq : p ≠ q := fun e => hp0 (by rw [e]; exact hq0)
    obtain ⟨q1, q2⟩ := p5 p hpm hp0
    refine ⟨?_, fun t i => ?_⟩
    · show (if p = q then _ else h.1 p) = _
      rw [if_neg hpq]; exact q1
    · show (if t = 6 ∧ i = j ∧ p = m then _ else if p = q then _ else h.2 t i p) = _
      rw [if_neg (fun e => hpm e.2.2), if_neg hpq]; exact q2 t i
def mZ : mS := fun _ _ => 0
/-- a new reference's numbers -/
def mS0 : mS := rsR (rsR (rsR (rsR mZ 16 8 (fun _ => -1)) 19 8 (fun _ => -1)) 10 8 (fun _ => -1)) 31 64 (fun _ => -1)
theorem rs_sw {j k j' i : Nat} {f : Nat → Int32} {x : Int32} (h : j' ≠ j) : mu (rsR S j k f) j' i x = rsR (mu S j' i x) j k f := by
  funext a b
  simp only [mu, rsR]
  by_cases e : a = j' ∧ b = i
  · rw [if_pos e, if_neg (fun q => h (e.1.symm.trans q.1)), if_pos e]
  · rw [if_neg e, if_neg e]
theorem mu_rs3 {T : mS} {b : Nat} {f : Nat → Int32} : mu (mu (mu (rsR (rsR (rsR T 16 b f) 19 b f) 10 b f) 16 b (f b)) 19 b (f b)) 10 b (f b) = rsR (rsR (rsR T 16 (b + 1) f) 19 (b + 1) f) 10 (b + 1) f := by
  rw [rs_sw (j := 10) (j' := 16) (by decide), rs_sw (j := 19) (j' := 16) (by decide), rs_s (j := 16), rs_sw (j := 10) (j' := 19) (by decide), rs_s (j := 19), rs_s (j := 10)]
theorem lp_M_ini1 {T : mS} (hQ : ∀ h, mo h m ar (rsR (rsR (rsR T 16 8 (fun _ => -1)) 19 8 (fun _ => -1)) 10 8 (fun _ => -1)) → mo_fr m ar h0 h → ∀ x1, jm_W Γ m_M_init d rc rs Q 322 [some (.ref m), x1] [] h) :
    ∀ j b, b + j = 8 → ∀ h, mo h m ar (rsR (rsR (rsR T 16 b (fun _ => -1)) 19 b (fun _ => -1)) 10 b (fun _ => -1)) → mo_fr m ar h0 h → jm_W Γ m_M_init d rc rs Q 289 [some (.ref m), some (.int (nI b))] [] h := by
  intro j
  induction j with
  | zero =>
    intro b hb h hm hf
    have hb' : b = 8 := by omega
    subst hb'
    refine jm_iload_n d_M_init_289 rfl ?_
    refine jm_bipushL (v := 8) d_M_init_290 (by decide) ?_
    refine jm_icmp_ge 322 d_M_init_292 (by decide) (fun hb292 => ?_) (fun hb292 => ?_)
    · exact hQ h hm hf _
    · exact absurd (by decide) hb292
  | succ j ih =>
    intro b hb h hm hf
    refine jm_iload_n d_M_init_289 rfl ?_
    refine jm_bipushL (v := 8) d_M_init_290 (by decide) ?_
    refine jm_icmp_ge 322 d_M_init_292 (by decide) (fun hb292 => ?_) (fun hb292 => ?_)
    · exact absurd hb292 (nI_ge (b := 8) (by omega) (by decide))
    · first | refine jm_aload_n d_M_init_295 rfl ?_ | refine jm_aload_nN d_M_init_295 rfl ?_
      refine mr_geta d_M_init_296 f_M_47 hm (by decide) (by decide) ?_
      refine jm_iload_n d_M_init_299 rfl ?_
      refine jm_iconstL (v := (-1)) d_M_init_300 (by decide) ?_
      refine mr_stN _ d_M_init_301 hm hf (by decide) (by decide) rfl rfl (by simp only [mo_len]; omega) (fun h hm hf => ?_)
      first | refine jm_aload_n d_M_init_302 rfl ?_ | refine jm_aload_nN d_M_init_302 rfl ?_
      refine mr_geta d_M_init_303 f_M_56 hm (by decide) (by decide) ?_
      refine jm_iload_n d_M_init_306 rfl ?_
      refine jm_iconstL (v := (-1)) d_M_init_307 (by decide) ?_
      refine mr_stN _ d_M_init_308 hm hf (by decide) (by decide) rfl rfl (by simp only [mo_len]; omega) (fun h hm hf => ?_)
      first | refine jm_aload_n d_M_init_309 rfl ?_ | refine jm_aload_nN d_M_init_309 rfl ?_
      refine mr_geta d_M_init_310 f_M_28 hm (by decide) (by decide) ?_
      refine jm_iload_n d_M_init_313 rfl ?_
      refine jm_iconstL (v := (-1)) d_M_init_314 (by decide) ?_
      refine mr_stN _ d_M_init_315 hm hf (by decide) (by decide) rfl rfl (by simp only [mo_len]; omega) (fun h hm hf => ?_)
      refine jm_iincL (v := nI (b + 1)) d_M_init_316 rfl (by rw [nI_succ]; rfl) ?_
      refine jm_goto 289 d_M_init_319 (by decide) ?_
      refine ih (b + 1) (by omega) h ?_ hf
      rw [← mu_rs3]
      exact hm
theorem lp_M_ini2 {T : mS} (hQ : ∀ h, mo h m ar (rsR T 31 64 (fun _ => -1)) → mo_fr m ar h0 h → Q (.inl none) h) :
    ∀ j b, b + j = 64 → ∀ h, mo h m ar (rsR T 31 b (fun _ => -1)) → mo_fr m ar h0 h → jm_W Γ m_M_init d rc rs Q 324 [some (.ref m), some (.int (nI b))] [] h := by
  intro j
  induction j with
  | zero =>
    intro b hb h hm hf
    have hb' : b = 64 := by omega
    subst hb'
    refine jm_iload_n d_M_init_324 rfl ?_
    refine jm_bipushL (v := 64) d_M_init_325 (by decide) ?_
    refine jm_icmp_ge 343 d_M_init_327 (by decide) (fun hb327 => ?_) (fun hb327 => ?_)
    · exact jm_vret d_M_init_343 rfl (hQ h hm hf)
    · exact absurd (by decide) hb327
  | succ j ih =>
    intro b hb h hm hf
    refine jm_iload_n d_M_init_324 rfl ?_
    refine jm_bipushL (v := 64) d_M_init_325 (by decide) ?_
    refine jm_icmp_ge 343 d_M_init_327 (by decide) (fun hb327 => ?_) (fun hb327 => ?_)
    · exact absurd hb327 (nI_ge (b := 64) (by omega) (by decide))
    · first | refine jm_aload_n d_M_init_330 rfl ?_ | refine jm_aload_nN d_M_init_330 rfl ?_
      refine mr_geta d_M_init_331 f_M_89 hm (by decide) (by decide) ?_
      refine jm_iload_n d_M_init_334 rfl ?_
      refine jm_iconstL (v := (-1)) d_M_init_335 (by decide) ?_
      refine mr_stN _ d_M_init_336 hm hf (by decide) (by decide) rfl rfl (by simp only [mo_len]; omega) (fun h hm hf => ?_)
      refine jm_iincL (v := nI (b + 1)) d_M_init_337 rfl (by rw [nI_succ]; rfl) ?_
      refine jm_goto 324 d_M_init_340 (by decide) ?_
      refine ih (b + 1) (by omega) h ?_ hf
      rw [← rs_s]
      exact hm
theorem k_M_init (hd : 1 ≤ d) (hm0 : h.1 m = some (6, 0)) (hz : ∀ j, h.2 6 j m = if mo_len j = 0 then .int 0 else .null) : jm_M Γ m_M_init d [.ref m] h 35 10166 (fun oc h' => oc = .inl none ∧ ∃ ar, mo h' m ar mS0 ∧ (∀ j, j < 42 → 0 < mo_len j → h.1 (ar j) = none) ∧ ∀ p, p ≠ m → h.1 p ≠ none → h'.1 p = h.1 p ∧ ∀ t i, h'.2 t i p = h.2 t i p) := by
  have hp : mpo h h m (fun _ => 0) mZ 0 := ⟨hm0, fun j hj hl => by rw [hz j, if_pos hl]; rfl, fun j _ hj => absurd hj (by omega), fun i _ _ _ hi => absurd hi (by omega), fun p _ _ => ⟨rfl, fun _ _ => rfl⟩⟩
  have hm0 : h.1 m ≠ none := by rw [hm0]; exact fun e => by cases e
  generalize hh : h = hE at *
  clear hh
  refine jm_entry (by decide +kernel) (List.forall_mem_cons.mpr ⟨rfl, fun _ h => nomatch h⟩) (Nat.le_of_ble_eq_true rfl) ?_
  show jm_W _ _ _ _ _ _ 0 [some (.ref m), none] [] _
  refine jm_aload_n d_M_init_0 rfl ?_
  refine jm_objInit d_M_init_1 l_M_1 iw_obj cw_obj (by omega) (Nat.le_of_ble_eq_true rfl) ?_
  refine jm_aload_n d_M_init_4 rfl ?_
  refine jm_bipushL (v := nI 8) d_M_init_5 (by decide) ?_
  refine mr_ini 0 d_M_init_7 d_M_init_9 f_M_7 rfl (by decide) ac_int rfl (fun U cA => va_nm_int) (fun _ => rfl) (fun _ => rfl) rfl (by decide) (by decide) rfl (by decide) (fun _ => rfl) (by decide) (by decide) hm0 hp (fun h ar hp => ?_)
  refine jm_aload_n d_M_init_12 rfl ?_
  refine jm_bipushL (v := nI 32) d_M_init_13 (by decide) ?_
  refine mr_ini 0 d_M_init_15 d_M_init_17 f_M_13 rfl (by decide) ac_int rfl (fun U cA => va_nm_int) (fun _ => rfl) (fun _ => rfl) rfl (by decide) (by decide) rfl (by decide) (fun _ => rfl) (by decide) (by decide) hm0 hp (fun h ar hp => ?_)
  refine jm_aload_n d_M_init_20 rfl ?_
  refine jm_bipushL (v := nI 12) d_M_init_21 (by decide) ?_
  refine mr_ini 0 d_M_init_23 d_M_init_25 f_M_16 rfl (by decide) ac_int rfl (fun U cA => va_nm_int) (fun _ => rfl) (fun _ => rfl) rfl (by decide) (by decide) rfl (by decide) (fun _ => rfl) (by decide) (by decide) hm0 hp (fun h ar hp => ?_)
  refine jm_aload_n d_M_init_28 rfl ?_
  refine jm_bipushL (v := nI 12) d_M_init_29 (by decide) ?_
  refine mr_ini 0 d_M_init_31 d_M_init_33 f_M_19 rfl (by decide) ac_int rfl (fun U cA => va_nm_int) (fun _ => rfl) (fun _ => rfl) rfl (by decide) (by decide) rfl (by decide) (fun _ => rfl) (by decide) (by decide) hm0 hp (fun h ar hp => ?_)
  refine jm_aload_n d_M_init_36 rfl ?_
  refine jm_sipushL (v := nI 192) d_M_init_37 (by decide) ?_
  refine mr_ini 0 d_M_init_40 d_M_init_42 f_M_22 rfl (by decide) ac_int rfl (fun U cA => va_nm_int) (fun _ => rfl) (fun _ => rfl) rfl (by decide) (by decide) rfl (by decide) (fun _ => rfl) (by decide) (by decide) hm0 hp (fun h ar hp => ?_)
  refine jm_aload_n d_M_init_45 rfl ?_
  refine jm_bipushL (v := nI 8) d_M_init_46 (by decide) ?_
  refine mr_ini 0 d_M_init_48 d_M_init_50 f_M_25 rfl (by decide) ac_int rfl (fun U cA => va_nm_int) (fun _ => rfl) (fun _ => rfl) rfl (by decide) (by decide) rfl (by decide) (fun _ => rfl) (by decide) (by decide) hm0 hp (fun h ar hp => ?_)
  refine jm_aload_n d_M_init_53 rfl ?_
  refine jm_bipushL (v := nI 8) d_M_init_54 (by decide) ?_
  refine mr_ini 0 d_M_init_56 d_M_init_58 f_M_28 rfl (by decide) ac_int rfl (fun U cA => va_nm_int) (fun _ => rfl) (fun _ => rfl) rfl (by decide) (by decide) rfl (by decide) (fun _ => rfl) (by decide) (by decide) hm0 hp (fun h ar hp => ?_)
  refine jm_aload_n d_M_init_61 rfl ?_
  refine jm_bipushL (v := nI 8) d_M_init_62 (by decide) ?_
  refine mr_ini 0 d_M_init_64 d_M_init_66 f_M_31 rfl (by decide) ac_int rfl (fun U cA => va_nm_int) (fun _ => rfl) (fun _ => rfl) rfl (by decide) (by decide) rfl (by decide) (fun _ => rfl) (by decide) (by decide) hm0 hp (fun h ar hp => ?_)
  refine jm_aload_n d_M_init_69 rfl ?_
  refine jm_bipushL (v := nI 8) d_M_init_70 (by decide) ?_
  refine mr_ini 0 d_M_init_72 d_M_init_74 f_M_34 rfl (by decide) ac_int rfl (fun U cA => va_nm_int) (fun _ => rfl) (fun _ => rfl) rfl (by decide) (by decide) rfl (by decide) (fun _ => rfl) (by decide) (by decide) hm0 hp (fun h ar hp => ?_)
  refine jm_aload_n d_M_init_77 rfl ?_
  refine jm_bipushL (v := nI 8) d_M_init_78 (by decide) ?_
  refine mr_ini 1 d_M_init_80 d_M_init_82 f_M_37 rfl (by decide) ac_boolean rfl (fun U cA => va_nm_boolean) (fun _ => rfl) (fun _ => rfl) rfl (by decide) (by decide) rfl (by decide) (fun _ => rfl) (by decide) (by decide) hm0 hp (fun h ar hp => ?_)
  refine jm_aload_n d_M_init_85 rfl ?_
  refine jm_bipushL (v := nI 8) d_M_init_86 (by decide) ?_
  refine mr_ini 1 d_M_init_88 d_M_init_90 f_M_41 rfl (by decide) ac_boolean rfl (fun U cA => va_nm_boolean) (fun _ => rfl) (fun _ => rfl) rfl (by decide) (by decide) rfl (by decide) (fun _ => rfl) (by decide) (by decide) hm0 hp (fun h ar hp => ?_)
  refine jm_aload_n d_M_init_93 rfl ?_
  refine jm_bipushL (v := nI 8) d_M_init_94 (by decide) ?_
  refine mr_ini 1 d_M_init_96 d_M_init_98 f_M_44 rfl (by decide) ac_boolean rfl (fun U cA => va_nm_boolean) (fun _ => rfl) (fun _ => rfl) rfl (by decide) (by decide) rfl (by decide) (fun _ => rfl) (by decide) (by decide) hm0 hp (fun h ar hp => ?_)
  refine jm_aload_n d_M_init_101 rfl ?_
  refine jm_bipushL (v := nI 8) d_M_init_102 (by decide) ?_
  refine mr_ini 0 d_M_init_104 d_M_init_106 f_M_47 rfl (by decide) ac_int rfl (fun U cA => va_nm_int) (fun _ => rfl) (fun _ => rfl) rfl (by decide) (by decide) rfl (by decide) (fun _ => rfl) (by decide) (by decide) hm0 hp (fun h ar hp => ?_)
  refine jm_aload_n d_M_init_109 rfl ?_
  refine jm_bipushL (v := nI 8) d_M_init_110 (by decide) ?_
  refine mr_ini 0 d_M_init_112 d_M_init_114 f_M_50 rfl (by decide) ac_int rfl (fun U cA => va_nm_int) (fun _ => rfl) (fun _ => rfl) rfl (by decide) (by decide) rfl (by decide) (fun _ => rfl) (by decide) (by decide) hm0 hp (fun h ar hp => ?_)
  refine jm_aload_n d_M_init_117 rfl ?_
  refine jm_bipushL (v := nI 8) d_M_init_118 (by decide) ?_
  refine mr_ini 0 d_M_init_120 d_M_init_122 f_M_53 rfl (by decide) ac_int rfl (fun U cA => va_nm_int) (fun _ => rfl) (fun _ => rfl) rfl (by decide) (by decide) rfl (by decide) (fun _ => rfl) (by decide) (by decide) hm0 hp (fun h ar hp => ?_)
  refine jm_aload_n d_M_init_125 rfl ?_
  refine jm_bipushL (v := nI 8) d_M_init_126 (by decide) ?_
  refine mr_ini 0 d_M_init_128 d_M_init_130 f_M_56 rfl (by decide) ac_int rfl (fun U cA => va_nm_int) (fun _ => rfl) (fun _ => rfl) rfl (by decide) (by decide) rfl (by decide) (fun _ => rfl) (by decide) (by decide) hm0 hp (fun h ar hp => ?_)
  refine jm_aload_n d_M_init_133 rfl ?_
  refine jm_bipushL (v := nI 64) d_M_init_134 (by decide) ?_
  refine mr_ini 0 d_M_init_136 d_M_init_138 f_M_59 rfl (by decide) ac_int rfl (fun U cA => va_nm_int) (fun _ => rfl) (fun _ => rfl) rfl (by decide) (by decide) rfl (by decide) (fun _ => rfl) (by decide) (by decide) hm0 hp (fun h ar hp => ?_)
  refine jm_aload_n d_M_init_141 rfl ?_
  refine jm_bipushL (v := nI 8) d_M_init_142 (by decide) ?_
  refine mr_ini 0 d_M_init_144 d_M_init_146 f_M_62 rfl (by decide) ac_int rfl (fun U cA => va_nm_int) (fun _ => rfl) (fun _ => rfl) rfl (by decide) (by decide) rfl (by decide) (fun _ => rfl) (by decide) (by decide) hm0 hp (fun h ar hp => ?_)
  refine jm_aload_n d_M_init_149 rfl ?_
  refine jm_bipushL (v := nI 8) d_M_init_150 (by decide) ?_
  refine mr_ini 0 d_M_init_152 d_M_init_154 f_M_65 rfl (by decide) ac_int rfl (fun U cA => va_nm_int) (fun _ => rfl) (fun _ => rfl) rfl (by decide) (by decide) rfl (by decide) (fun _ => rfl) (by decide) (by decide) hm0 hp (fun h ar hp => ?_)
  refine jm_aload_n d_M_init_157 rfl ?_
  refine jm_bipushL (v := nI 16) d_M_init_158 (by decide) ?_
  refine mr_ini 0 d_M_init_160 d_M_init_162 f_M_68 rfl (by decide) ac_int rfl (fun U cA => va_nm_int) (fun _ => rfl) (fun _ => rfl) rfl (by decide) (by decide) rfl (by decide) (fun _ => rfl) (by decide) (by decide) hm0 hp (fun h ar hp => ?_)
  refine jm_aload_n d_M_init_165 rfl ?_
  refine jm_bipushL (v := nI 16) d_M_init_166 (by decide) ?_
  refine mr_ini 0 d_M_init_168 d_M_init_170 f_M_71 rfl (by decide) ac_int rfl (fun U cA => va_nm_int) (fun _ => rfl) (fun _ => rfl) rfl (by decide) (by decide) rfl (by decide) (fun _ => rfl) (by decide) (by decide) hm0 hp (fun h ar hp => ?_)
  refine jm_aload_n d_M_init_173 rfl ?_
  refine jm_bipushL (v := nI 16) d_M_init_174 (by decide) ?_
  refine mr_ini 0 d_M_init_176 d_M_init_178 f_M_74 rfl (by decide) ac_int rfl (fun U cA => va_nm_int) (fun _ => rfl) (fun _ => rfl) rfl (by decide) (by decide) rfl (by decide) (fun _ => rfl) (by decide) (by decide) hm0 hp (fun h ar hp => ?_)
  refine jm_aload_n d_M_init_181 rfl ?_
  refine jm_sipushL (v := nI 4096) d_M_init_182 (by decide) ?_
  refine mr_ini 0 d_M_init_185 d_M_init_187 f_M_77 rfl (by decide) ac_int rfl (fun U cA => va_nm_int) (fun _ => rfl) (fun _ => rfl) rfl (by decide) (by decide) rfl (by decide) (fun _ => rfl) (by decide) (by decide) hm0 hp (fun h ar hp => ?_)
  refine jm_aload_n d_M_init_190 rfl ?_
  refine jm_bipushL (v := nI 8) d_M_init_191 (by decide) ?_
  refine mr_ini 0 d_M_init_193 d_M_init_195 f_M_80 rfl (by decide) ac_int rfl (fun U cA => va_nm_int) (fun _ => rfl) (fun _ => rfl) rfl (by decide) (by decide) rfl (by decide) (fun _ => rfl) (by decide) (by decide) hm0 hp (fun h ar hp => ?_)
  refine jm_aload_n d_M_init_198 rfl ?_
  refine jm_bipushL (v := nI 8) d_M_init_199 (by decide) ?_
  refine mr_ini 0 d_M_init_201 d_M_init_203 f_M_83 rfl (by decide) ac_int rfl (fun U cA => va_nm_int) (fun _ => rfl) (fun _ => rfl) rfl (by decide) (by decide) rfl (by decide) (fun _ => rfl) (by decide) (by decide) hm0 hp (fun h ar hp => ?_)
  refine jm_aload_n d_M_init_206 rfl ?_
  refine jm_bipushL (v := nI 8) d_M_init_207 (by decide) ?_
  refine mr_ini 0 d_M_init_209 d_M_init_211 f_M_86 rfl (by decide) ac_int rfl (fun U cA => va_nm_int) (fun _ => rfl) (fun _ => rfl) rfl (by decide) (by decide) rfl (by decide) (fun _ => rfl) (by decide) (by decide) hm0 hp (fun h ar hp => ?_)
  refine jm_aload_n d_M_init_214 rfl ?_
  refine jm_bipushL (v := nI 64) d_M_init_215 (by decide) ?_
  refine mr_ini 0 d_M_init_217 d_M_init_219 f_M_89 rfl (by decide) ac_int rfl (fun U cA => va_nm_int) (fun _ => rfl) (fun _ => rfl) rfl (by decide) (by decide) rfl (by decide) (fun _ => rfl) (by decide) (by decide) hm0 hp (fun h ar hp => ?_)
  refine jm_aload_n d_M_init_222 rfl ?_
  refine jm_bipushL (v := nI 8) d_M_init_223 (by decide) ?_
  refine mr_ini 0 d_M_init_225 d_M_init_227 f_M_92 rfl (by decide) ac_int rfl (fun U cA => va_nm_int) (fun _ => rfl) (fun _ => rfl) rfl (by decide) (by decide) rfl (by decide) (fun _ => rfl) (by decide) (by decide) hm0 hp (fun h ar hp => ?_)
  refine jm_aload_n d_M_init_230 rfl ?_
  refine jm_bipushL (v := nI 21) d_M_init_231 (by decide) ?_
  refine mr_ini 0 d_M_init_233 d_M_init_235 f_M_95 rfl (by decide) ac_int rfl (fun U cA => va_nm_int) (fun _ => rfl) (fun _ => rfl) rfl (by decide) (by decide) rfl (by decide) (fun _ => rfl) (by decide) (by decide) hm0 hp (fun h ar hp => ?_)
  refine jm_aload_n d_M_init_238 rfl ?_
  refine jm_bipushL (v := nI 21) d_M_init_239 (by decide) ?_
  refine mr_ini 0 d_M_init_241 d_M_init_243 f_M_98 rfl (by decide) ac_int rfl (fun U cA => va_nm_int) (fun _ => rfl) (fun _ => rfl) rfl (by decide) (by decide) rfl (by decide) (fun _ => rfl) (by decide) (by decide) hm0 hp (fun h ar hp => ?_)
  refine jm_aload_n d_M_init_246 rfl ?_
  refine jm_bipushL (v := nI 21) d_M_init_247 (by decide) ?_
  refine mr_ini 0 d_M_init_249 d_M_init_251 f_M_101 rfl (by decide) ac_int rfl (fun U cA => va_nm_int) (fun _ => rfl) (fun _ => rfl) rfl (by decide) (by decide) rfl (by decide) (fun _ => rfl) (by decide) (by decide) hm0 hp (fun h ar hp => ?_)
  refine jm_aload_n d_M_init_254 rfl ?_
  refine jm_bipushL (v := nI 21) d_M_init_255 (by decide) ?_
  refine mr_ini 0 d_M_init_257 d_M_init_259 f_M_104 rfl (by decide) ac_int rfl (fun U cA => va_nm_int) (fun _ => rfl) (fun _ => rfl) rfl (by decide) (by decide) rfl (by decide) (fun _ => rfl) (by decide) (by decide) hm0 hp (fun h ar hp => ?_)
  refine jm_aload_n d_M_init_262 rfl ?_
  refine jm_bipushL (v := nI 21) d_M_init_263 (by decide) ?_
  refine mr_ini 0 d_M_init_265 d_M_init_267 f_M_107 rfl (by decide) ac_int rfl (fun U cA => va_nm_int) (fun _ => rfl) (fun _ => rfl) rfl (by decide) (by decide) rfl (by decide) (fun _ => rfl) (by decide) (by decide) hm0 hp (fun h ar hp => ?_)
  refine jm_aload_n d_M_init_270 rfl ?_
  refine jm_bipushL (v := nI 21) d_M_init_271 (by decide) ?_
  refine mr_ini 0 d_M_init_273 d_M_init_275 f_M_110 rfl (by decide) ac_int rfl (fun U cA => va_nm_int) (fun _ => rfl) (fun _ => rfl) rfl (by decide) (by decide) rfl (by decide) (fun _ => rfl) (by decide) (by decide) hm0 hp (fun h ar hp => ?_)
  refine jm_aload_n d_M_init_278 rfl ?_
  refine jm_sipushL (v := nI 5376) d_M_init_279 (by decide) ?_
  refine mr_ini 0 d_M_init_282 d_M_init_284 f_M_113 rfl (by decide) ac_int rfl (fun U cA => va_nm_int) (fun _ => rfl) (fun _ => rfl) rfl (by decide) (by decide) rfl (by decide) (fun _ => rfl) (by decide) (by decide) hm0 hp (fun h ar hp => ?_)
  have hm : mo h m ar mZ := ⟨hp.1, hp.2.1, fun j hj hl => ⟨(hp.2.2.1 j hj hj hl).1, (hp.2.2.1 j hj hj hl).2.1, (hp.2.2.1 j hj hj hl).2.2.1⟩, fun i j hi hj hli hlj => hp.2.2.2.1 i j hi hj hi hj hli hlj⟩
  refine jm_iconstL (v := nI 0) d_M_init_287 (by decide) ?_
  refine jm_istore_n d_M_init_288 (Nat.le_of_ble_eq_true rfl) ?_
  refine lp_M_ini1 (T := mZ) (fun h' hm hf x1 => ?_) 8 0 (by omega) h (by rw [rs_0, rs_0, rs_0]; exact hm) mo_fr.rf
  refine jm_iconstL (v := nI 0) d_M_init_322 (by decide) ?_
  refine jm_istore_n d_M_init_323 (Nat.le_of_ble_eq_true rfl) ?_
  refine lp_M_ini2 (fun h2 hm2 hf2 => ⟨rfl, ar, hm2, fun j hj hl => (hp.2.2.1 j hj hj hl).2.2.2, fun p hpm hp0 => ?_⟩) 64 0 (by omega) h' (by rw [rs_0]; exact hm) hf
  obtain ⟨q1, q2⟩ := hp.2.2.2.2 p hpm hp0
  have hpa : ∀ j, j < 42 → 0 < mo_len j → p ≠ ar j := fun j hj hl e => hp0 (by rw [e]; exact (hp.2.2.1 j hj hj hl).2.2.2)
  exact ⟨(congrFun hf2.1 p).trans q1, fun t i => (hf2.2 p hpm hpa t i).trans (q2 t i)⟩
end
