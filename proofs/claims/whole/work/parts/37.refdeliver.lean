/-! THE REFERENCE: a letter is delivered. Written by wip/whole/gen/p37.py -/
section
variable {Γ : jm_G} {d m : Nat} {ar : Nat → Nat} {S : mS} {h : jm_H}
/-- the same with all numbers read off the state -/
abbrev wkK (S : mS) (n a np nl : Nat) : Prop := wkH S n a np (N S 21 a) (N S 3 a) (unN S (S 22 a) 8) nl
abbrev wkC (S : mS) (a : Nat) (r : Int32) (np : Nat) : mS := wkS S a r np (N S 21 a) (N S 3 a) (unN S (S 22 a) 8)
abbrev hdw (S : mS) (a n : Nat) : Nat := unN S (hdU S a n (N S 21 a) 22 a) 8
abbrev hdK (S : mS) (n a np nl : Nat) : Prop := a < n ∧ S 1 0 = nI n ∧ n ≤ 8 ∧ S 21 a = nI (N S 21 a) ∧ N S 21 a ≤ 8 ∧ (∀ k, k < N S 21 a → nn S 20 (8 * a + k) 7) ∧ S 34 0 = nI nl ∧ nl ≤ 20 ∧ (nxR (S 9) (S 9 a) (S 18 a) n < 0 → wkH (hdU S a n (N S 21 a)) n a np (N S 21 a) (N S 3 a) (hdw S a n) nl)
abbrev hdC (S : mS) (a n np : Nat) : mS := hdS S a n np (N S 21 a) (N S 3 a) (hdw S a n)
abbrev chK (S : mS) (n a np nl : Nat) : Prop := a < 8 ∧ cwf S n a np (N S 21 a) ∧ 1 ≤ N S 3 a ∧ knw S n a ∧ S 34 0 = nI nl ∧ nl ≤ 20
abbrev chC (S : mS) (a : Nat) (r : Int32) (np : Nat) : mS := chS S a r np (N S 21 a) (N S 3 a)
theorem c_M_work {n a np nl : Nat} (r : Int32) (hd : 5 ≤ d) (hH : wkK S n a np nl) : mM Γ m_M_work d m ar [.int (nI a), .int r] S (fun v9 S' => v9 = none ∧ S' = wkC S a r np) := k_M_work r hd hH
theorem c_M_hold {n a np nl : Nat} (hd : 6 ≤ d) (hH : hdK S n a np nl) : mM Γ m_M_hold d m ar [.int (nI a)] S (fun v9 S' => v9 = none ∧ S' = hdC S a n np) :=
  k_M_hold hd hH.1 hH.2.1 hH.2.2.1 hH.2.2.2.1 hH.2.2.2.2.1 hH.2.2.2.2.2.1 hH.2.2.2.2.2.2.1 hH.2.2.2.2.2.2.2.1 hH.2.2.2.2.2.2.2.2
theorem c_M_receiveToken {n a np nl : Nat} (s x : Int32) (hd : 7 ≤ d) (hH : hdK (rt0 S a s x) n a np nl) : mM Γ m_M_receiveToken d m ar [.int (nI a), .int s, .int x] S (fun v9 S' => v9 = none ∧ S' = hdC (rt0 S a s x) a n np) :=
  k_M_receiveToken s x hd hH.1 hH.2.1 hH.2.2.1 hH.2.2.2.1 hH.2.2.2.2.1 hH.2.2.2.2.2.1 hH.2.2.2.2.2.2.1 hH.2.2.2.2.2.2.2.1 hH.2.2.2.2.2.2.2.2
theorem c_M_choose {n a np nl : Nat} (r : Int32) (hd : 4 ≤ d) (hH : chK S n a np nl) : mM Γ m_M_choose d m ar [.int (nI a), .int r] S (fun v9 S' => v9 = none ∧ S' = chC S a r np) :=
  k_M_choose r hd hH.1 hH.2.1 rfl hH.2.2.1 hH.2.2.2.1 hH.2.2.2.2.1 hH.2.2.2.2.2
abbrev bk0 (S : mS) (a : Nat) : mS := mu (mu (mu S 18 a (S 38 20)) 20 (8 * a + N S 21 a) (S 36 20)) 21 a (nI (N S 21 a + 1))
abbrev tb1 (S : mS) (b : Nat) : mS := mu (mu (mu S 23 (8 + b) (S 38 20)) 24 (8 + b) (S 40 20)) 25 (8 + b) (S 39 20)
abbrev tb0 (S : mS) (b : Nat) : mS := cpB (tb1 S b) 26 (2048 + 256 * b) 41 5120 (N S 39 20)
abbrev ch0 (S : mS) (a : Nat) : mS := cpB S 31 (8 * a) 41 5120 8
/-- the letter at place 20 is delivered -/
def dvS (S : mS) (n np a b : Nat) : mS :=
  if S 35 20 = 0 then (if S 13 a = 0 then hdC (rt0 S a (nI b) (S 38 20)) a n np else if S 14 a ≠ 0 ∧ S 16 a = nI b then pstS S 1 (nI a) (nI b) (S 18 a) else S)
  else if S 35 20 = 1 then (if S 19 a = nI b then hdC (bk0 S a) a n np else S)
  else if S 35 20 = 2 then (if ¬ S 38 20 ≤ S 23 (8 + b) then wkC (tb0 S b) a (S 38 20) np else S)
  else (if ¬ S 38 20 ≤ S 28 a then chC (ch0 S a) a (S 38 20) np else S)
abbrev dvH (S : mS) (n np a b nl : Nat) : Prop := S 37 20 = nI a ∧ S 36 20 = nI b ∧ a < 8 ∧ b < 8 ∧ S 34 0 = nI nl ∧ nl ≤ 20 ∧
  (S 35 20 = 0 → S 13 a = 0 → hdK (rt0 S a (nI b) (S 38 20)) n a np nl) ∧
  (S 35 20 = 1 → S 19 a = nI b → S 21 a = nI (N S 21 a) ∧ N S 21 a ≤ 7 ∧ hdK (bk0 S a) n a np nl) ∧
  (S 35 20 = 2 → ¬ S 38 20 ≤ S 23 (8 + b) → S 39 20 = nI (N S 39 20) ∧ N S 39 20 ≤ 256 ∧ wkK (tb0 S b) n a np nl) ∧
  (S 35 20 ≠ 0 → S 35 20 ≠ 1 → S 35 20 ≠ 2 → ¬ S 38 20 ≤ S 28 a → chK (ch0 S a) n a np nl)
theorem lp_M_dvt {rc rs b w : Nat} {T : mS} {h0 : jm_H} {Q : jm_O → jm_H → Prop} {w1 : Option Value} (hb8 : b < 8) (hw : w ≤ 256) (hT : T 39 20 = nI w)
    (hQ : ∀ h, mo h m ar (cpB T 26 (2048 + 256 * b) 41 5120 w) → mo_fr m ar h0 h → ∀ x3, jm_W Γ m_M_deliver d rc rs Q 279 [some (.ref m), w1, some (.int (nI b)), x3] [] h) :
    ∀ j i, i + j = w → ∀ h, mo h m ar (cpB T 26 (2048 + 256 * b) 41 5120 i) → mo_fr m ar h0 h → jm_W Γ m_M_deliver d rc rs Q 236 [some (.ref m), w1, some (.int (nI b)), some (.int (nI i))] [] h := by
  intro j
  induction j with
  | zero =>
    intro i hi h hm hf
    have hi' : i = w := by omega
    subst hi'
    have e39 : cpB T 26 (2048 + 256 * b) 41 5120 i 39 20 = nI i := hT
    refine jm_iload_n d_M_deliver_236 rfl ?_
    first | refine jm_aload_n d_M_deliver_237 rfl ?_ | refine jm_aload_nN d_M_deliver_237 rfl ?_
    refine mr_geta d_M_deliver_238 f_M_107 hm (by decide) (by decide) ?_
    refine jm_bipushL (v := 20) d_M_deliver_241 (by decide) ?_
    refine mr_ldN _ d_M_deliver_243 hm (by decide) (by decide) rfl rfl (by simp only [mo_len]; omega) ?_
    rw [e39]
    refine jm_icmp_ge 279 d_M_deliver_244 (by decide) (fun hb244 => ?_) (fun hb244 => ?_)
    · exact hQ h hm hf _
    · exact absurd (nI_le (by omega) (by omega)) hb244
  | succ j ih =>
    intro i hi h hm hf
    have e39 : cpB T 26 (2048 + 256 * b) 41 5120 i 39 20 = nI w := hT
    have e1 : (2048 : Int32) + 256 * nI b + nI i = nI (2048 + 256 * b + i) := by rw [show (2048 : Int32) = nI 2048 from rfl, show (256 : Int32) = nI 256 from rfl, pk_mul, nI_add, nI_add]
    have e2 : (5120 : Int32) + nI i = nI (5120 + i) := by rw [show (5120 : Int32) = nI 5120 from rfl, nI_add]
    refine jm_iload_n d_M_deliver_236 rfl ?_
    first | refine jm_aload_n d_M_deliver_237 rfl ?_ | refine jm_aload_nN d_M_deliver_237 rfl ?_
    refine mr_geta d_M_deliver_238 f_M_107 hm (by decide) (by decide) ?_
    refine jm_bipushL (v := 20) d_M_deliver_241 (by decide) ?_
    refine mr_ldN _ d_M_deliver_243 hm (by decide) (by decide) rfl rfl (by simp only [mo_len]; omega) ?_
    rw [e39]
    refine jm_icmp_ge 279 d_M_deliver_244 (by decide) (fun hb244 => ?_) (fun hb244 => ?_)
    · exact absurd hb244 (nI_ge (by omega) (by omega))
    · first | refine jm_aload_n d_M_deliver_247 rfl ?_ | refine jm_aload_nN d_M_deliver_247 rfl ?_
      refine mr_geta d_M_deliver_248 f_M_77 hm (by decide) (by decide) ?_
      refine jm_sipushL (v := 2048) d_M_deliver_251 (by decide) ?_
      refine jm_sipushL (v := 256) d_M_deliver_254 (by decide) ?_
      refine jm_iload_n d_M_deliver_257 rfl ?_
      refine jm_imul d_M_deliver_258 ?_
      refine jm_iadd d_M_deliver_259 ?_
      refine jm_iload_n d_M_deliver_260 rfl ?_
      refine jm_iadd d_M_deliver_261 ?_
      rw [e1]
      first | refine jm_aload_n d_M_deliver_262 rfl ?_ | refine jm_aload_nN d_M_deliver_262 rfl ?_
      refine mr_geta d_M_deliver_263 f_M_113 hm (by decide) (by decide) ?_
      refine jm_sipushL (v := 5120) d_M_deliver_266 (by decide) ?_
      refine jm_iload_n d_M_deliver_269 rfl ?_
      refine jm_iadd d_M_deliver_270 ?_
      rw [e2]
      refine mr_ldN _ d_M_deliver_271 hm (by decide) (by decide) rfl rfl (by simp only [mo_len]; omega) ?_
      refine mr_stN _ d_M_deliver_272 hm hf (by decide) (by decide) rfl rfl (by simp only [mo_len]; omega) (fun h hm hf => ?_)
      refine jm_iincL (v := nI (i + 1)) d_M_deliver_273 rfl (by rw [nI_succ]; rfl) ?_
      refine jm_goto 236 d_M_deliver_276 (by decide) ?_
      refine ih (i + 1) (by omega) h ?_ hf
      rw [cpB_s (by omega) (by omega)] at hm
      exact hm
theorem lp_M_dvc {rc rs a : Nat} {T : mS} {h0 : jm_H} {Q : jm_O → jm_H → Prop} {w2 : Option Value} (ha8 : a < 8)
    (hQ : ∀ h, mo h m ar (cpB T 31 (8 * a) 41 5120 8) → mo_fr m ar h0 h → ∀ x3, jm_W Γ m_M_deliver d rc rs Q 345 [some (.ref m), some (.int (nI a)), w2, x3] [] h) :
    ∀ j i, i + j = 8 → ∀ h, mo h m ar (cpB T 31 (8 * a) 41 5120 i) → mo_fr m ar h0 h → jm_W Γ m_M_deliver d rc rs Q 312 [some (.ref m), some (.int (nI a)), w2, some (.int (nI i))] [] h := by
  intro j
  induction j with
  | zero =>
    intro i hi h hm hf
    have hi' : i = 8 := by omega
    subst hi'
    refine jm_iload_n d_M_deliver_312 rfl ?_
    refine jm_bipushL (v := 8) d_M_deliver_313 (by decide) ?_
    refine jm_icmp_ge 345 d_M_deliver_315 (by decide) (fun hb315 => ?_) (fun hb315 => ?_)
    · exact hQ h hm hf _
    · exact absurd (by decide) hb315
  | succ j ih =>
    intro i hi h hm hf
    have e2 : (5120 : Int32) + nI i = nI (5120 + i) := by rw [show (5120 : Int32) = nI 5120 from rfl, nI_add]
    refine jm_iload_n d_M_deliver_312 rfl ?_
    refine jm_bipushL (v := 8) d_M_deliver_313 (by decide) ?_
    refine jm_icmp_ge 345 d_M_deliver_315 (by decide) (fun hb315 => ?_) (fun hb315 => ?_)
    · exact absurd hb315 (nI_ge (b := 8) (by omega) (by decide))
    · first | refine jm_aload_n d_M_deliver_318 rfl ?_ | refine jm_aload_nN d_M_deliver_318 rfl ?_
      refine mr_geta d_M_deliver_319 f_M_89 hm (by decide) (by decide) ?_
      refine jm_bipushL (v := 8) d_M_deliver_322 (by decide) ?_
      refine jm_iload_n d_M_deliver_324 rfl ?_
      refine jm_imul d_M_deliver_325 ?_
      refine jm_iload_n d_M_deliver_326 rfl ?_
      refine jm_iadd d_M_deliver_327 ?_
      rw [e8]
      first | refine jm_aload_n d_M_deliver_328 rfl ?_ | refine jm_aload_nN d_M_deliver_328 rfl ?_
      refine mr_geta d_M_deliver_329 f_M_113 hm (by decide) (by decide) ?_
      refine jm_sipushL (v := 5120) d_M_deliver_332 (by decide) ?_
      refine jm_iload_n d_M_deliver_335 rfl ?_
      refine jm_iadd d_M_deliver_336 ?_
      rw [e2]
      refine mr_ldN _ d_M_deliver_337 hm (by decide) (by decide) rfl rfl (by simp only [mo_len]; omega) ?_
      refine mr_stN _ d_M_deliver_338 hm hf (by decide) (by decide) rfl rfl (by simp only [mo_len]; omega) (fun h hm hf => ?_)
      refine jm_iincL (v := nI (i + 1)) d_M_deliver_339 rfl (by rw [nI_succ]; rfl) ?_
      refine jm_goto 312 d_M_deliver_342 (by decide) ?_
      refine ih (i + 1) (by omega) h ?_ hf
      rw [cpB_s (by omega) (by omega)] at hm
      exact hm
theorem k_M_deliver {n np a b nl : Nat} (hd : 8 ≤ d) (hH : dvH S n np a b nl) : mM Γ m_M_deliver d m ar [] S (fun v9 S' => v9 = none ∧ S' = dvS S n np a b) := by
  intro h hm
  have hf : mo_fr m ar h h := mo_fr.rf
  obtain ⟨eA, eB, ha, hb, e34, hnl, h_0, h_1, h_2, h_3⟩ := hH
  have i20 : (20 : Int32) = nI 20 := rfl
  have e8b : (8 : Int32) + nI b = nI (8 + b) := by rw [show (8 : Int32) = nI 8 from rfl, nI_add]
  refine jm_entry (by decide +kernel) (List.forall_mem_cons.mpr ⟨rfl, fun _ h => nomatch h⟩) (Nat.le_of_ble_eq_true rfl) ?_
  show jm_W _ _ _ _ _ _ 0 [some (.ref m), none, none, none] [] _
  first | refine jm_aload_n d_M_deliver_0 rfl ?_ | refine jm_aload_nN d_M_deliver_0 rfl ?_
  refine mr_geta d_M_deliver_1 f_M_101 hm (by decide) (by decide) ?_
  refine jm_bipushL (v := 20) d_M_deliver_4 (by decide) ?_
  rw [i20]
  refine mr_ldN _ d_M_deliver_6 hm (by decide) (by decide) rfl rfl (by simp only [mo_len]; omega) ?_
  rw [eA]
  refine jm_istore_n d_M_deliver_7 (Nat.le_of_ble_eq_true rfl) ?_
  first | refine jm_aload_n d_M_deliver_8 rfl ?_ | refine jm_aload_nN d_M_deliver_8 rfl ?_
  refine mr_geta d_M_deliver_9 f_M_98 hm (by decide) (by decide) ?_
  refine jm_bipushL (v := 20) d_M_deliver_12 (by decide) ?_
  rw [i20]
  refine mr_ldN _ d_M_deliver_14 hm (by decide) (by decide) rfl rfl (by simp only [mo_len]; omega) ?_
  rw [eB]
  refine jm_istore_n d_M_deliver_15 (Nat.le_of_ble_eq_true rfl) ?_
  first | refine jm_aload_n d_M_deliver_16 rfl ?_ | refine jm_aload_nN d_M_deliver_16 rfl ?_
  refine mr_geta d_M_deliver_17 f_M_95 hm (by decide) (by decide) ?_
  refine jm_bipushL (v := 20) d_M_deliver_20 (by decide) ?_
  rw [i20]
  refine mr_ldN _ d_M_deliver_22 hm (by decide) (by decide) rfl rfl (by simp only [mo_len]; omega) ?_
  first | refine jm_bz_ne 87 d_M_deliver_23 (by decide) (fun hb23 => ?_) (fun hb23 => ?_) | refine jm_if_ne 87 d_M_deliver_23 (by decide) (fun hb23 => ?_) (fun hb23 => ?_)
  · first | refine jm_aload_n d_M_deliver_87 rfl ?_ | refine jm_aload_nN d_M_deliver_87 rfl ?_
    refine mr_geta d_M_deliver_88 f_M_95 hm (by decide) (by decide) ?_
    refine jm_bipushL (v := 20) d_M_deliver_91 (by decide) ?_
    rw [i20]
    refine mr_ldN _ d_M_deliver_93 hm (by decide) (by decide) rfl rfl (by simp only [mo_len]; omega) ?_
    refine jm_iconstL (v := 1) d_M_deliver_94 (by decide) ?_
    refine jm_icmp_ne 156 d_M_deliver_95 (by decide) (fun hb95 => ?_) (fun hb95 => ?_)
    · first | refine jm_aload_n d_M_deliver_156 rfl ?_ | refine jm_aload_nN d_M_deliver_156 rfl ?_
      refine mr_geta d_M_deliver_157 f_M_95 hm (by decide) (by decide) ?_
      refine jm_bipushL (v := 20) d_M_deliver_160 (by decide) ?_
      rw [i20]
      refine mr_ldN _ d_M_deliver_162 hm (by decide) (by decide) rfl rfl (by simp only [mo_len]; omega) ?_
      refine jm_iconstL (v := 2) d_M_deliver_163 (by decide) ?_
      refine jm_icmp_ne 294 d_M_deliver_164 (by decide) (fun hb164 => ?_) (fun hb164 => ?_)
      · first | refine jm_aload_n d_M_deliver_294 rfl ?_ | refine jm_aload_nN d_M_deliver_294 rfl ?_
        refine mr_geta d_M_deliver_295 f_M_104 hm (by decide) (by decide) ?_
        refine jm_bipushL (v := 20) d_M_deliver_298 (by decide) ?_
        rw [i20]
        refine mr_ldN _ d_M_deliver_300 hm (by decide) (by decide) rfl rfl (by simp only [mo_len]; omega) ?_
        first | refine jm_aload_n d_M_deliver_301 rfl ?_ | refine jm_aload_nN d_M_deliver_301 rfl ?_
        refine mr_geta d_M_deliver_302 f_M_80 hm (by decide) (by decide) ?_
        refine jm_iload_n d_M_deliver_305 rfl ?_
        refine mr_ldN _ d_M_deliver_306 hm (by decide) (by decide) rfl rfl (by simp only [mo_len]; omega) ?_
        refine jm_icmp_le 357 d_M_deliver_307 (by decide) (fun hb307 => ?_) (fun hb307 => ?_)
        · exact jm_vret d_M_deliver_357 rfl ⟨_, _, rfl, ⟨rfl, by rw [dvS, if_neg hb23, if_neg hb95, if_neg hb164, if_neg (fun q => q hb307)]⟩, hm, hf⟩
        · have hK := h_3 hb23 hb95 hb164 hb307
          refine jm_iconstL (v := nI 0) d_M_deliver_310 (by decide) ?_
          refine jm_istore_n d_M_deliver_311 (Nat.le_of_ble_eq_true rfl) ?_
          refine lp_M_dvc (T := S) ha (fun h hm hf x3 => ?_) 8 0 (by omega) h (by rw [cpB_0]; exact hm) hf
          first | refine jm_aload_n d_M_deliver_345 rfl ?_ | refine jm_aload_nN d_M_deliver_345 rfl ?_
          refine jm_iload_n d_M_deliver_346 rfl ?_
          first | refine jm_aload_n d_M_deliver_347 rfl ?_ | refine jm_aload_nN d_M_deliver_347 rfl ?_
          refine mr_geta d_M_deliver_348 f_M_104 hm (by decide) (by decide) ?_
          refine jm_bipushL (v := 20) d_M_deliver_351 (by decide) ?_
          rw [i20]
          refine mr_ldN _ d_M_deliver_353 hm (by decide) (by decide) rfl rfl (by simp only [mo_len]; omega) ?_
          refine mr_call (As := [_, _]) d_M_deliver_354 l_M_217 iw_M_choose ew_M_choose nv_M_choose rfl (Nat.le_of_ble_eq_true rfl) (by omega : 4 + 1 ≤ _) (c_M_choose (S := ch0 S a) (n := n) (np := np) (nl := nl) _ (by omega) hK) hm hf (fun v9 S9 h hq hm hf => ?_)
          obtain ⟨rfl, rfl⟩ := hq
          exact jm_vret d_M_deliver_357 rfl ⟨_, _, rfl, ⟨rfl, by rw [dvS, if_neg hb23, if_neg hb95, if_neg hb164, if_pos hb307]; rfl⟩, hm, hf⟩
      · first | refine jm_aload_n d_M_deliver_167 rfl ?_ | refine jm_aload_nN d_M_deliver_167 rfl ?_
        refine mr_geta d_M_deliver_168 f_M_104 hm (by decide) (by decide) ?_
        refine jm_bipushL (v := 20) d_M_deliver_171 (by decide) ?_
        rw [i20]
        refine mr_ldN _ d_M_deliver_173 hm (by decide) (by decide) rfl rfl (by simp only [mo_len]; omega) ?_
        first | refine jm_aload_n d_M_deliver_174 rfl ?_ | refine jm_aload_nN d_M_deliver_174 rfl ?_
        refine mr_geta d_M_deliver_175 f_M_68 hm (by decide) (by decide) ?_
        refine jm_bipushL (v := 8) d_M_deliver_178 (by decide) ?_
        refine jm_iload_n d_M_deliver_180 rfl ?_
        refine jm_iadd d_M_deliver_181 ?_
        rw [e8b]
        refine mr_ldN _ d_M_deliver_182 hm (by decide) (by decide) rfl rfl (by simp only [mo_len]; omega) ?_
        refine jm_icmp_le 357 d_M_deliver_183 (by decide) (fun hb183 => ?_) (fun hb183 => ?_)
        · exact jm_vret d_M_deliver_357 rfl ⟨_, _, rfl, ⟨rfl, by rw [dvS, if_neg hb23, if_neg hb95, if_pos (Decidable.not_not.mp hb164), if_neg (fun q => q hb183)]⟩, hm, hf⟩
        · obtain ⟨e39, h39, hK⟩ := h_2 (Decidable.not_not.mp hb164) hb183
          first | refine jm_aload_n d_M_deliver_186 rfl ?_ | refine jm_aload_nN d_M_deliver_186 rfl ?_
          refine mr_geta d_M_deliver_187 f_M_68 hm (by decide) (by decide) ?_
          refine jm_bipushL (v := 8) d_M_deliver_190 (by decide) ?_
          refine jm_iload_n d_M_deliver_192 rfl ?_
          refine jm_iadd d_M_deliver_193 ?_
          rw [e8b]
          first | refine jm_aload_n d_M_deliver_194 rfl ?_ | refine jm_aload_nN d_M_deliver_194 rfl ?_
          refine mr_geta d_M_deliver_195 f_M_104 hm (by decide) (by decide) ?_
          refine jm_bipushL (v := 20) d_M_deliver_198 (by decide) ?_
          rw [i20]
          refine mr_ldN _ d_M_deliver_200 hm (by decide) (by decide) rfl rfl (by simp only [mo_len]; omega) ?_
          refine mr_stN _ d_M_deliver_201 hm hf (by decide) (by decide) rfl rfl (by simp only [mo_len]; omega) (fun h hm hf => ?_)
          first | refine jm_aload_n d_M_deliver_202 rfl ?_ | refine jm_aload_nN d_M_deliver_202 rfl ?_
          refine mr_geta d_M_deliver_203 f_M_71 hm (by decide) (by decide) ?_
          refine jm_bipushL (v := 8) d_M_deliver_206 (by decide) ?_
          refine jm_iload_n d_M_deliver_208 rfl ?_
          refine jm_iadd d_M_deliver_209 ?_
          rw [e8b]
          first | refine jm_aload_n d_M_deliver_210 rfl ?_ | refine jm_aload_nN d_M_deliver_210 rfl ?_
          refine mr_geta d_M_deliver_211 f_M_110 hm (by decide) (by decide) ?_
          refine jm_bipushL (v := 20) d_M_deliver_214 (by decide) ?_
          rw [i20]
          refine mr_ldN _ d_M_deliver_216 hm (by decide) (by decide) rfl rfl (by simp only [mo_len]; omega) ?_
          refine mr_stN _ d_M_deliver_217 hm hf (by decide) (by decide) rfl rfl (by simp only [mo_len]; omega) (fun h hm hf => ?_)
          first | refine jm_aload_n d_M_deliver_218 rfl ?_ | refine jm_aload_nN d_M_deliver_218 rfl ?_
          refine mr_geta d_M_deliver_219 f_M_74 hm (by decide) (by decide) ?_
          refine jm_bipushL (v := 8) d_M_deliver_222 (by decide) ?_
          refine jm_iload_n d_M_deliver_224 rfl ?_
          refine jm_iadd d_M_deliver_225 ?_
          rw [e8b]
          first | refine jm_aload_n d_M_deliver_226 rfl ?_ | refine jm_aload_nN d_M_deliver_226 rfl ?_
          refine mr_geta d_M_deliver_227 f_M_107 hm (by decide) (by decide) ?_
          refine jm_bipushL (v := 20) d_M_deliver_230 (by decide) ?_
          rw [i20]
          refine mr_ldN _ d_M_deliver_232 hm (by decide) (by decide) rfl rfl (by simp only [mo_len]; omega) ?_
          refine mr_stN _ d_M_deliver_233 hm hf (by decide) (by decide) rfl rfl (by simp only [mo_len]; omega) (fun h hm hf => ?_)
          refine jm_iconstL (v := nI 0) d_M_deliver_234 (by decide) ?_
          refine jm_istore_n d_M_deliver_235 (Nat.le_of_ble_eq_true rfl) ?_
          refine lp_M_dvt (T := tb1 S b) (w := N S 39 20) hb h39 e39 (fun h hm hf x3 => ?_) (N S 39 20) 0 (by omega) h (by rw [cpB_0]; exact hm) hf
          first | refine jm_aload_n d_M_deliver_279 rfl ?_ | refine jm_aload_nN d_M_deliver_279 rfl ?_
          refine jm_iload_n d_M_deliver_280 rfl ?_
          first | refine jm_aload_n d_M_deliver_281 rfl ?_ | refine jm_aload_nN d_M_deliver_281 rfl ?_
          refine mr_geta d_M_deliver_282 f_M_104 hm (by decide) (by decide) ?_
          refine jm_bipushL (v := 20) d_M_deliver_285 (by decide) ?_
          rw [i20]
          refine mr_ldN _ d_M_deliver_287 hm (by decide) (by decide) rfl rfl (by simp only [mo_len]; omega) ?_
          refine mr_call (As := [_, _]) d_M_deliver_288 l_M_186 iw_M_work ew_M_work nv_M_work rfl (Nat.le_of_ble_eq_true rfl) (by omega : 5 + 1 ≤ _) (c_M_work (S := tb0 S b) (n := n) (np := np) (nl := nl) _ (by omega) hK) hm hf (fun v9 S9 h hq hm hf => ?_)
          obtain ⟨rfl, rfl⟩ := hq
          refine jm_goto 357 d_M_deliver_291 (by decide) ?_
          exact jm_vret d_M_deliver_357 rfl ⟨_, _, rfl, ⟨rfl, by rw [dvS, if_neg hb23, if_neg hb95, if_pos (Decidable.not_not.mp hb164), if_pos hb183]; rfl⟩, hm, hf⟩
    · first | refine jm_aload_n d_M_deliver_98 rfl ?_ | refine jm_aload_nN d_M_deliver_98 rfl ?_
      refine mr_geta d_M_deliver_99 f_M_56 hm (by decide) (by decide) ?_
      refine jm_iload_n d_M_deliver_102 rfl ?_
      refine mr_ldN _ d_M_deliver_103 hm (by decide) (by decide) rfl rfl (by simp only [mo_len]; omega) ?_
      refine jm_iload_n d_M_deliver_104 rfl ?_
      refine jm_icmp_ne 357 d_M_deliver_105 (by decide) (fun hb105 => ?_) (fun hb105 => ?_)
      · exact jm_vret d_M_deliver_357 rfl ⟨_, _, rfl, ⟨rfl, by rw [dvS, if_neg hb23, if_pos (Decidable.not_not.mp hb95), if_neg hb105]⟩, hm, hf⟩
      · obtain ⟨e21, h21, hK⟩ := h_1 (Decidable.not_not.mp hb95) (Decidable.not_not.mp hb105)
        have e21a : mu S 18 a (S 38 20) 21 a = nI (N S 21 a) := e21
        have e21b : ∀ y, mu (mu S 18 a (S 38 20)) 20 (8 * a + N S 21 a) y 21 a = nI (N S 21 a) := fun _ => e21
        first | refine jm_aload_n d_M_deliver_108 rfl ?_ | refine jm_aload_nN d_M_deliver_108 rfl ?_
        refine mr_geta d_M_deliver_109 f_M_53 hm (by decide) (by decide) ?_
        refine jm_iload_n d_M_deliver_112 rfl ?_
        first | refine jm_aload_n d_M_deliver_113 rfl ?_ | refine jm_aload_nN d_M_deliver_113 rfl ?_
        refine mr_geta d_M_deliver_114 f_M_104 hm (by decide) (by decide) ?_
        refine jm_bipushL (v := 20) d_M_deliver_117 (by decide) ?_
        rw [i20]
        refine mr_ldN _ d_M_deliver_119 hm (by decide) (by decide) rfl rfl (by simp only [mo_len]; omega) ?_
        refine mr_stN _ d_M_deliver_120 hm hf (by decide) (by decide) rfl rfl (by simp only [mo_len]; omega) (fun h hm hf => ?_)
        first | refine jm_aload_n d_M_deliver_121 rfl ?_ | refine jm_aload_nN d_M_deliver_121 rfl ?_
        refine mr_geta d_M_deliver_122 f_M_59 hm (by decide) (by decide) ?_
        refine jm_bipushL (v := 8) d_M_deliver_125 (by decide) ?_
        refine jm_iload_n d_M_deliver_127 rfl ?_
        refine jm_imul d_M_deliver_128 ?_
        first | refine jm_aload_n d_M_deliver_129 rfl ?_ | refine jm_aload_nN d_M_deliver_129 rfl ?_
        refine mr_geta d_M_deliver_130 f_M_62 hm (by decide) (by decide) ?_
        refine jm_iload_n d_M_deliver_133 rfl ?_
        refine mr_ldN _ d_M_deliver_134 hm (by decide) (by decide) rfl rfl (by simp only [mo_len]; omega) ?_
        rw [e21a]
        refine jm_iadd d_M_deliver_135 ?_
        rw [e8]
        refine jm_iload_n d_M_deliver_136 rfl ?_
        refine mr_stN _ d_M_deliver_137 hm hf (by decide) (by decide) rfl rfl (by simp only [mo_len]; omega) (fun h hm hf => ?_)
        first | refine jm_aload_n d_M_deliver_138 rfl ?_ | refine jm_aload_nN d_M_deliver_138 rfl ?_
        refine mr_geta d_M_deliver_139 f_M_62 hm (by decide) (by decide) ?_
        refine jm_iload_n d_M_deliver_142 rfl ?_
        refine jm_dup2 d_M_deliver_143 rfl rfl ?_
        refine mr_ldN _ d_M_deliver_144 hm (by decide) (by decide) rfl rfl (by simp only [mo_len]; omega) ?_
        rw [e21b]
        refine jm_iconstL (v := 1) d_M_deliver_145 (by decide) ?_
        refine jm_iadd d_M_deliver_146 ?_
        rw [nI_1]
        refine mr_stN _ d_M_deliver_147 hm hf (by decide) (by decide) rfl rfl (by simp only [mo_len]; omega) (fun h hm hf => ?_)
        first | refine jm_aload_n d_M_deliver_148 rfl ?_ | refine jm_aload_nN d_M_deliver_148 rfl ?_
        refine jm_iload_n d_M_deliver_149 rfl ?_
        rw [← eB] at hm
        refine mr_call (As := [_]) d_M_deliver_150 l_M_183 iw_M_hold ew_M_hold nv_M_hold rfl (Nat.le_of_ble_eq_true rfl) (by omega : 6 + 1 ≤ _) (c_M_hold (S := bk0 S a) (n := n) (np := np) (nl := nl) (by omega) hK) hm hf (fun v9 S9 h hq hm hf => ?_)
        obtain ⟨rfl, rfl⟩ := hq
        refine jm_goto 357 d_M_deliver_153 (by decide) ?_
        exact jm_vret d_M_deliver_357 rfl ⟨_, _, rfl, ⟨rfl, by rw [dvS, if_neg hb23, if_pos (Decidable.not_not.mp hb95), if_pos (Decidable.not_not.mp hb105)]⟩, hm, hf⟩
  · first | refine jm_aload_n d_M_deliver_26 rfl ?_ | refine jm_aload_nN d_M_deliver_26 rfl ?_
    refine mr_geta d_M_deliver_27 f_M_37 hm (by decide) (by decide) ?_
    refine jm_iload_n d_M_deliver_30 rfl ?_
    refine mr_ldzN _ d_M_deliver_31 hm (by decide) (by decide) rfl rfl (by simp only [mo_len]; omega) ?_
    first | refine jm_bz_ne 51 d_M_deliver_32 (by decide) (fun hb32 => ?_) (fun hb32 => ?_) | refine jm_if_ne 51 d_M_deliver_32 (by decide) (fun hb32 => ?_) (fun hb32 => ?_)
    · first | refine jm_aload_n d_M_deliver_51 rfl ?_ | refine jm_aload_nN d_M_deliver_51 rfl ?_
      refine mr_geta d_M_deliver_52 f_M_41 hm (by decide) (by decide) ?_
      refine jm_iload_n d_M_deliver_55 rfl ?_
      refine mr_ldzN _ d_M_deliver_56 hm (by decide) (by decide) rfl rfl (by simp only [mo_len]; omega) ?_
      first | refine jm_bz_eq 357 d_M_deliver_57 (by decide) (fun hb57 => ?_) (fun hb57 => ?_) | refine jm_if_eq 357 d_M_deliver_57 (by decide) (fun hb57 => ?_) (fun hb57 => ?_)
      · exact jm_vret d_M_deliver_357 rfl ⟨_, _, rfl, ⟨rfl, by rw [dvS, if_pos (Decidable.not_not.mp hb23), if_neg hb32, if_neg (fun q => q.1 hb57)]⟩, hm, hf⟩
      · first | refine jm_aload_n d_M_deliver_60 rfl ?_ | refine jm_aload_nN d_M_deliver_60 rfl ?_
        refine mr_geta d_M_deliver_61 f_M_47 hm (by decide) (by decide) ?_
        refine jm_iload_n d_M_deliver_64 rfl ?_
        refine mr_ldN _ d_M_deliver_65 hm (by decide) (by decide) rfl rfl (by simp only [mo_len]; omega) ?_
        refine jm_iload_n d_M_deliver_66 rfl ?_
        refine jm_icmp_ne 357 d_M_deliver_67 (by decide) (fun hb67 => ?_) (fun hb67 => ?_)
        · exact jm_vret d_M_deliver_357 rfl ⟨_, _, rfl, ⟨rfl, by rw [dvS, if_pos (Decidable.not_not.mp hb23), if_neg hb32, if_neg (fun q => hb67 q.2)]⟩, hm, hf⟩
        · first | refine jm_aload_n d_M_deliver_70 rfl ?_ | refine jm_aload_nN d_M_deliver_70 rfl ?_
          refine jm_iconstL (v := 1) d_M_deliver_71 (by decide) ?_
          refine jm_iload_n d_M_deliver_72 rfl ?_
          refine jm_iload_n d_M_deliver_73 rfl ?_
          first | refine jm_aload_n d_M_deliver_74 rfl ?_ | refine jm_aload_nN d_M_deliver_74 rfl ?_
          refine mr_geta d_M_deliver_75 f_M_53 hm (by decide) (by decide) ?_
          refine jm_iload_n d_M_deliver_78 rfl ?_
          refine mr_ldN _ d_M_deliver_79 hm (by decide) (by decide) rfl rfl (by simp only [mo_len]; omega) ?_
          refine mr_call (As := [_, _, _, _]) d_M_deliver_80 l_M_179 iw_M_post ew_M_post nv_M_post rfl (Nat.le_of_ble_eq_true rfl) (by omega : 0 + 1 ≤ _) (k_M_pst e34 hnl _ _ _ _) hm hf (fun v9 S9 h hq hm hf => ?_)
          obtain ⟨rfl, y9, rfl⟩ := hq
          refine jm_istore_n d_M_deliver_83 (Nat.le_of_ble_eq_true rfl) ?_
          refine jm_goto 357 d_M_deliver_84 (by decide) ?_
          exact jm_vret d_M_deliver_357 rfl ⟨_, _, rfl, ⟨rfl, by rw [dvS, if_pos (Decidable.not_not.mp hb23), if_neg hb32, if_pos (And.intro hb57 (Decidable.not_not.mp hb67))]⟩, hm, hf⟩
    · first | refine jm_aload_n d_M_deliver_35 rfl ?_ | refine jm_aload_nN d_M_deliver_35 rfl ?_
      refine jm_iload_n d_M_deliver_36 rfl ?_
      refine jm_iload_n d_M_deliver_37 rfl ?_
      first | refine jm_aload_n d_M_deliver_38 rfl ?_ | refine jm_aload_nN d_M_deliver_38 rfl ?_
      refine mr_geta d_M_deliver_39 f_M_104 hm (by decide) (by decide) ?_
      refine jm_bipushL (v := 20) d_M_deliver_42 (by decide) ?_
      rw [i20]
      refine mr_ldN _ d_M_deliver_44 hm (by decide) (by decide) rfl rfl (by simp only [mo_len]; omega) ?_
      refine mr_call (As := [_, _, _]) d_M_deliver_45 l_M_172 iw_M_receiveToken ew_M_receiveToken nv_M_receiveToken rfl (Nat.le_of_ble_eq_true rfl) (by omega : 7 + 1 ≤ _) (c_M_receiveToken (n := n) (np := np) (nl := nl) _ _ (by omega) (h_0 (Decidable.not_not.mp hb23) (Decidable.not_not.mp hb32))) hm hf (fun v9 S9 h hq hm hf => ?_)
      obtain ⟨rfl, rfl⟩ := hq
      refine jm_goto 357 d_M_deliver_48 (by decide) ?_
      exact jm_vret d_M_deliver_357 rfl ⟨_, _, rfl, ⟨rfl, by rw [dvS, if_pos (Decidable.not_not.mp hb23), if_pos (Decidable.not_not.mp hb32)]⟩, hm, hf⟩
end
