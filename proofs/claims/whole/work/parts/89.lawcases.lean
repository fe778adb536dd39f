/-! THE LAW: a call of each kind. Written by wip/whole/gen/p89.py -/
section
variable {Γ : jm_G} {d rc rs b o x m ln i K : Nat} {xs : Nat → Int32} {h : jm_H} {Q : jm_O → jm_H → Prop} {u5 u6 : Option Value}
theorem pre4 {S C : mS} {n np nl T : Nat} {sz : Nat → Nat → Nat} (hI : INV S C n np nl T sz) (hs : S 2 0 = 0) : (∀ a, sz 4 a = 0) ∧ ∀ p, sz 5 p ≠ 1 := (inv_pre hI hs).2.2.2.2.2
theorem case_agent (hd : 12 ≤ d) (hE : eInj Γ) (hi : i + 6 ≤ ln) (hln : ln ≤ 3072) (hK : K < 2 ^ 29) (hrc : 104 ≤ rc) (hrs : 2544 ≤ rs) (H : LI Γ b o x m ln xs K h) (k : ∀ h' u5 u6, LI Γ b o x m ln xs (K + 1) h' → jm_W Γ m_W_law d (rc - 104) (rs - 2544) Q 836 [some (.ref b), some (.ref x), some (.ref m), some (.ref o), some (.int (nI i)), u5, u6] [] h') : jm_W Γ m_W_law d rc rs Q 120 [some (.ref b), some (.ref x), some (.ref m), some (.ref o), some (.int (nI i)), u5, u6] [] h := by
  obtain ⟨L, ρ, sz, C, ar, S, n, np, nl, T, hc, hm, hI, ⟨hT1, hTK⟩, ⟨r6, a6⟩, ⟨ho, o6⟩, hb, b6, hxs⟩ := H
  obtain ⟨hS1, h8, hS5, h12, hS34, h20, hS2, hn, hp, hn34, h60, hs8, hs6, hs20⟩ := inv_sc hI
  have hA := k_B_agentY (Γ := Γ) (x := x) (L := L) (z := xs (i + 1)) hI
  refine jm_aload_n d_W_law_120 rfl ?_
  refine jm_aload_n d_W_law_121 rfl ?_
  refine jm_iload d_W_law_122 rfl ?_
  refine jm_iconstL (v := nI 1) d_W_law_124 (by decide) ?_
  refine jm_iadd d_W_law_125 ?_
  rw [nI_add]
  refine jm_sload d_W_law_126 hb (vp_in_nI (show i + 1 < ln by omega) (by omega)) ?_
  rw [nI_clamp (show i + 1 < 2 ^ 31 by omega), hxs (i + 1) (by omega)]
  refine jm_aload_n d_W_law_127 rfl ?_
  refine jm_callS (As := [_, _, _]) d_W_law_128 l_W_49 sw_W_agent nv_W_agent rfl (Nat.le_of_ble_eq_true rfl) (by omega : 9 + 1 ≤ _) (by omega) (by omega) (w_agent (o := o) hA (fun v L' sz' C' q => by rcases q with ⟨_, e, _⟩ | ⟨_, _, e, _⟩ | ⟨_, _, _, e, _⟩ <;> cases e; exact ⟨_, rfl⟩) (fun X L' sz' C' q => by rcases q with ⟨_, e, _⟩ | ⟨_, _, e, _⟩ | ⟨_, _, _, e, _⟩ <;> cases e <;> first | exact Or.inl rfl | exact Or.inr rfl) hc ho o6) (fun v h1 hq => ?_) (fun X h1 hq => by obtain ⟨_, _, _, _, _, _, e, _⟩ := hq; cases e)
  obtain ⟨r, L1, ρ1, sz1, C1, qc, e0, hc1, hx1, hy1⟩ := hq
  cases e0
  obtain ⟨hm1, r61, a61⟩ := mo_xo hm r6 a6 ho hx1
  obtain ⟨hb1, b61, hxs1, ho1, o61⟩ := li_x hb b6 hxs ho o6 hx1
  refine jm_istore d_W_law_131 (Nat.le_of_ble_eq_true rfl) ?_
  refine jm_aload_n d_W_law_133 rfl ?_
  refine jm_aload_n d_W_law_134 rfl ?_
  refine jm_iload d_W_law_135 rfl ?_
  refine jm_iconstL (v := nI 1) d_W_law_137 (by decide) ?_
  refine jm_iadd d_W_law_138 ?_
  rw [nI_add]
  refine jm_sload d_W_law_139 hb1 (vp_in_nI (show i + 1 < ln by omega) (by omega)) ?_
  rw [nI_clamp (show i + 1 < 2 ^ 31 by omega), hxs1 (i + 1) (by omega)]
  refine mr_call (As := [_]) d_W_law_140 l_W_54 iw_M_agent ew_M_agent nv_M_agent rfl (Nat.le_of_ble_eq_true rfl) (by omega : 11 + 1 ≤ _) (k_M_agent (n := n) (by omega) hS1 h8 _) hm1 mo_fr.rf (fun v9 S9 h2 hq2 hm2 hf2 => ?_)
  have ok := ok_agent hI hT1 qc hq2
  obtain ⟨⟨n2, np2, nl2, T2, t1, t2, hI2⟩, ok1, ok2⟩ := ok
  obtain ⟨H2, hoo⟩ := li_m (K := K + 1) hc1 hm1 r61 a61 ho1 o61 hb1 b61 hxs1 hm2 hf2 hI2 ⟨t1, by omega⟩
  obtain ⟨w9, e9⟩ : ∃ w9, v9 = some (.int w9) := by rcases hq2 with ⟨_, _, e⟩ | ⟨_, _, _, e⟩ <;> exact ⟨_, e⟩
  subst e9
  refine jm_istore d_W_law_143 (Nat.le_of_ble_eq_true rfl) ?_
  refine jm_aload_n d_W_law_145 rfl ?_
  refine mr_callp (As := []) d_W_law_146 l_W_55 iw_M_thrown ew_M_thrown nv_M_thrown rfl (Nat.le_of_ble_eq_true rfl) (by omega : 0 + 1 ≤ _) k_M_thrown hm2 ?_
  refine jm_iload d_W_law_149 rfl ?_
  refine jm_icmp_eq 156 d_W_law_151 (by decide) (fun _ => ?_) (fun ne => absurd ok1 ne)
  refine jm_iload d_W_law_156 rfl ?_
  refine jm_if_ne 173 d_W_law_158 (by decide) (fun _ => ?_) (fun z0 => ?_)
  · refine jm_goto 836 d_W_law_173 (by decide) ?_
    exact jm_W.room (by omega) (by omega) (k h2 _ _ H2)
  · obtain ⟨v8, rfl⟩ := kc2_0 (Decidable.not_not.mp z0)
    obtain ⟨y8, rfl⟩ : ∃ y, v8 = some (.int y) := (fun v L' sz' C' (q : _) => by rcases q with ⟨_, e, _⟩ | ⟨_, _, e, _⟩ | ⟨_, _, _, e, _⟩ <;> cases e; exact ⟨_, rfl⟩) v8 L1 sz1 C1 qc
    have e8 : h2.2 100 0 o = .long y8.toInt64 := (hoo _ _).trans (hy1 y8 rfl)
    refine jm_aload_n d_W_law_161 rfl ?_
    refine jm_iconstL (v := nI 0) d_W_law_162 (by decide) ?_
    refine jm_laload (n := 1) d_W_law_163 (by rw [hf2.1]; exact ho1) (vp_in_nI (by decide) (by decide)) ?_
    rw [show h2.2 100 (nI 0).toNatClampNeg o = .long y8.toInt64 from e8]
    refine jm_iload d_W_law_164 rfl ?_
    refine jm_i2l d_W_law_166 ?_
    refine jm_lcmp d_W_law_167 ?_
    refine jm_if_eq 173 d_W_law_168 (by decide) (fun _ => ?_) (fun ne => absurd ((lg_cmp_eq _ _).mpr (by rw [ok2 y8 w9 rfl rfl])) ne)
    refine jm_goto 836 d_W_law_173 (by decide) ?_
    exact jm_W.room (by omega) (by omega) (k h2 _ _ H2)
theorem case_own (hd : 12 ≤ d) (hE : eInj Γ) (hi : i + 6 ≤ ln) (hln : ln ≤ 3072) (hK : K < 2 ^ 29) (hrc : 104 ≤ rc) (hrs : 2544 ≤ rs) (H : LI Γ b o x m ln xs K h) (k : ∀ h' u5 u6, LI Γ b o x m ln xs (K + 1) h' → jm_W Γ m_W_law d (rc - 104) (rs - 2544) Q 836 [some (.ref b), some (.ref x), some (.ref m), some (.ref o), some (.int (nI i)), u5, u6] [] h') : jm_W Γ m_W_law d rc rs Q 176 [some (.ref b), some (.ref x), some (.ref m), some (.ref o), some (.int (nI i)), u5, u6] [] h := by
  obtain ⟨L, ρ, sz, C, ar, S, n, np, nl, T, hc, hm, hI, ⟨hT1, hTK⟩, ⟨r6, a6⟩, ⟨ho, o6⟩, hb, b6, hxs⟩ := H
  obtain ⟨hS1, h8, hS5, h12, hS34, h20, hS2, hn, hp, hn34, h60, hs8, hs6, hs20⟩ := inv_sc hI
  refine jm_aload_n d_W_law_176 rfl ?_
  refine jm_aload_n d_W_law_177 rfl ?_
  refine jm_iload d_W_law_178 rfl ?_
  refine jm_iconstL (v := nI 1) d_W_law_180 (by decide) ?_
  refine jm_iadd d_W_law_181 ?_
  rw [nI_add]
  refine jm_sload d_W_law_182 hb (vp_in_nI (show i + 1 < ln by omega) (by omega)) ?_
  rw [nI_clamp (show i + 1 < 2 ^ 31 by omega), hxs (i + 1) (by omega)]
  refine jm_aload_n d_W_law_183 rfl ?_
  refine jm_iload d_W_law_184 rfl ?_
  refine jm_iconstL (v := nI 2) d_W_law_186 (by decide) ?_
  refine jm_iadd d_W_law_187 ?_
  rw [nI_add]
  refine jm_sload d_W_law_188 hb (vp_in_nI (show i + 2 < ln by omega) (by omega)) ?_
  rw [nI_clamp (show i + 2 < 2 ^ 31 by omega), hxs (i + 2) (by omega)]
  refine jm_aload_n d_W_law_189 rfl ?_
  refine jm_iload d_W_law_190 rfl ?_
  refine jm_iconstL (v := nI 3) d_W_law_192 (by decide) ?_
  refine jm_iadd d_W_law_193 ?_
  rw [nI_add]
  refine jm_sload d_W_law_194 hb (vp_in_nI (show i + 3 < ln by omega) (by omega)) ?_
  rw [nI_clamp (show i + 3 < 2 ^ 31 by omega), hxs (i + 3) (by omega)]
  refine jm_callS (As := [_, _, _, _]) d_W_law_195 l_W_58 sw_W_own nv_W_own rfl (Nat.le_of_ble_eq_true rfl) (by omega : 9 + 1 ≤ _) (by omega) (by omega) (w_own (o := o) (k_B_own (d := 8) (n := n) (Nat.le_refl _) hn hs8 h8 (z4_of hI)) (fun v L' sz' C' q => by rcases q with ⟨_, e, _⟩ | ⟨_, _, e, _⟩ | ⟨_, _, e, _⟩ <;> cases e; rfl) (fun X L' sz' C' q => by rcases q with ⟨_, e, _⟩ | ⟨_, _, e, _⟩ | ⟨_, _, e, _⟩ <;> cases e <;> first | exact Or.inl rfl | exact Or.inr rfl) hc) (fun v h1 hq => ?_) (fun X h1 hq => by obtain ⟨_, _, _, _, _, _, e, _⟩ := hq; cases e)
  obtain ⟨r, L1, ρ1, sz1, C1, qc, e0, hc1, hx1, hy1⟩ := hq
  cases e0
  obtain ⟨hm1, r61, a61⟩ := mo_xo hm r6 a6 ho hx1
  obtain ⟨hb1, b61, hxs1, ho1, o61⟩ := li_x hb b6 hxs ho o6 hx1
  refine jm_istore d_W_law_198 (Nat.le_of_ble_eq_true rfl) ?_
  refine jm_aload_n d_W_law_200 rfl ?_
  refine jm_aload_n d_W_law_201 rfl ?_
  refine jm_iload d_W_law_202 rfl ?_
  refine jm_iconstL (v := nI 1) d_W_law_204 (by decide) ?_
  refine jm_iadd d_W_law_205 ?_
  rw [nI_add]
  refine jm_sload d_W_law_206 hb1 (vp_in_nI (show i + 1 < ln by omega) (by omega)) ?_
  rw [nI_clamp (show i + 1 < 2 ^ 31 by omega), hxs1 (i + 1) (by omega)]
  refine jm_aload_n d_W_law_207 rfl ?_
  refine jm_iload d_W_law_208 rfl ?_
  refine jm_iconstL (v := nI 2) d_W_law_210 (by decide) ?_
  refine jm_iadd d_W_law_211 ?_
  rw [nI_add]
  refine jm_sload d_W_law_212 hb1 (vp_in_nI (show i + 2 < ln by omega) (by omega)) ?_
  rw [nI_clamp (show i + 2 < 2 ^ 31 by omega), hxs1 (i + 2) (by omega)]
  refine jm_aload_n d_W_law_213 rfl ?_
  refine jm_iload d_W_law_214 rfl ?_
  refine jm_iconstL (v := nI 3) d_W_law_216 (by decide) ?_
  refine jm_iadd d_W_law_217 ?_
  rw [nI_add]
  refine jm_sload d_W_law_218 hb1 (vp_in_nI (show i + 3 < ln by omega) (by omega)) ?_
  rw [nI_clamp (show i + 3 < 2 ^ 31 by omega), hxs1 (i + 3) (by omega)]
  refine mr_call (As := [_, _, _]) d_W_law_219 l_W_61 iw_M_own ew_M_own nv_M_own rfl (Nat.le_of_ble_eq_true rfl) (by omega : 11 + 1 ≤ _) (k_M_own (n := n) (by omega) hS1 h8 (sz_of hI.1) _ _ _) hm1 mo_fr.rf (fun v9 S9 h2 hq2 hm2 hf2 => ?_)
  have ok := ok_own hI hT1 qc hq2
  obtain ⟨⟨n2, np2, nl2, T2, t1, t2, hI2⟩, ok1, ok2⟩ := ok
  obtain ⟨H2, hoo⟩ := li_m (K := K + 1) hc1 hm1 r61 a61 ho1 o61 hb1 b61 hxs1 hm2 hf2 hI2 ⟨t1, by omega⟩
  have e9 : v9 = none := hq2.1
  subst e9
  refine jm_aload_n d_W_law_222 rfl ?_
  refine mr_callp (As := []) d_W_law_223 l_W_55 iw_M_thrown ew_M_thrown nv_M_thrown rfl (Nat.le_of_ble_eq_true rfl) (by omega : 0 + 1 ≤ _) k_M_thrown hm2 ?_
  refine jm_iload d_W_law_226 rfl ?_
  refine jm_icmp_eq 233 d_W_law_228 (by decide) (fun _ => ?_) (fun ne => absurd ok1 ne)
  refine jm_goto 836 d_W_law_233 (by decide) ?_
  exact jm_W.room (by omega) (by omega) (k h2 _ _ H2)
theorem case_pair (hd : 12 ≤ d) (hE : eInj Γ) (hi : i + 6 ≤ ln) (hln : ln ≤ 3072) (hK : K < 2 ^ 29) (hrc : 104 ≤ rc) (hrs : 2544 ≤ rs) (H : LI Γ b o x m ln xs K h) (k : ∀ h' u5 u6, LI Γ b o x m ln xs (K + 1) h' → jm_W Γ m_W_law d (rc - 104) (rs - 2544) Q 836 [some (.ref b), some (.ref x), some (.ref m), some (.ref o), some (.int (nI i)), u5, u6] [] h') : jm_W Γ m_W_law d rc rs Q 236 [some (.ref b), some (.ref x), some (.ref m), some (.ref o), some (.int (nI i)), u5, u6] [] h := by
  obtain ⟨L, ρ, sz, C, ar, S, n, np, nl, T, hc, hm, hI, ⟨hT1, hTK⟩, ⟨r6, a6⟩, ⟨ho, o6⟩, hb, b6, hxs⟩ := H
  obtain ⟨hS1, h8, hS5, h12, hS34, h20, hS2, hn, hp, hn34, h60, hs8, hs6, hs20⟩ := inv_sc hI
  refine jm_aload_n d_W_law_236 rfl ?_
  refine jm_aload_n d_W_law_237 rfl ?_
  refine jm_iload d_W_law_238 rfl ?_
  refine jm_iconstL (v := nI 1) d_W_law_240 (by decide) ?_
  refine jm_iadd d_W_law_241 ?_
  rw [nI_add]
  refine jm_sload d_W_law_242 hb (vp_in_nI (show i + 1 < ln by omega) (by omega)) ?_
  rw [nI_clamp (show i + 1 < 2 ^ 31 by omega), hxs (i + 1) (by omega)]
  refine jm_aload_n d_W_law_243 rfl ?_
  refine jm_iload d_W_law_244 rfl ?_
  refine jm_iconstL (v := nI 2) d_W_law_246 (by decide) ?_
  refine jm_iadd d_W_law_247 ?_
  rw [nI_add]
  refine jm_sload d_W_law_248 hb (vp_in_nI (show i + 2 < ln by omega) (by omega)) ?_
  rw [nI_clamp (show i + 2 < 2 ^ 31 by omega), hxs (i + 2) (by omega)]
  refine jm_aload_n d_W_law_249 rfl ?_
  refine jm_callS (As := [_, _, _, _]) d_W_law_250 l_W_62 sw_W_pair nv_W_pair rfl (Nat.le_of_ble_eq_true rfl) (by omega : 9 + 1 ≤ _) (by omega) (by omega) (w_pair (o := o) (k_B_pair (d := 8) (n := n) (np := np) (Nat.le_refl _) hn hs8 h8 hp hs6 h12) (fun v L' sz' C' q => by rcases q with ⟨_, e, _⟩ | ⟨_, _, e, _⟩ | ⟨_, _, _, e, _⟩ <;> cases e; exact ⟨_, rfl⟩) (fun X L' sz' C' q => by rcases q with ⟨_, e, _⟩ | ⟨_, _, e, _⟩ | ⟨_, _, _, e, _⟩ <;> cases e <;> first | exact Or.inl rfl | exact Or.inr rfl) hc ho o6) (fun v h1 hq => ?_) (fun X h1 hq => by obtain ⟨_, _, _, _, _, _, e, _⟩ := hq; cases e)
  obtain ⟨r, L1, ρ1, sz1, C1, qc, e0, hc1, hx1, hy1⟩ := hq
  cases e0
  obtain ⟨hm1, r61, a61⟩ := mo_xo hm r6 a6 ho hx1
  obtain ⟨hb1, b61, hxs1, ho1, o61⟩ := li_x hb b6 hxs ho o6 hx1
  refine jm_istore d_W_law_253 (Nat.le_of_ble_eq_true rfl) ?_
  refine jm_aload_n d_W_law_255 rfl ?_
  refine jm_aload_n d_W_law_256 rfl ?_
  refine jm_iload d_W_law_257 rfl ?_
  refine jm_iconstL (v := nI 1) d_W_law_259 (by decide) ?_
  refine jm_iadd d_W_law_260 ?_
  rw [nI_add]
  refine jm_sload d_W_law_261 hb1 (vp_in_nI (show i + 1 < ln by omega) (by omega)) ?_
  rw [nI_clamp (show i + 1 < 2 ^ 31 by omega), hxs1 (i + 1) (by omega)]
  refine jm_aload_n d_W_law_262 rfl ?_
  refine jm_iload d_W_law_263 rfl ?_
  refine jm_iconstL (v := nI 2) d_W_law_265 (by decide) ?_
  refine jm_iadd d_W_law_266 ?_
  rw [nI_add]
  refine jm_sload d_W_law_267 hb1 (vp_in_nI (show i + 2 < ln by omega) (by omega)) ?_
  rw [nI_clamp (show i + 2 < 2 ^ 31 by omega), hxs1 (i + 2) (by omega)]
  refine mr_call (As := [_, _]) d_W_law_268 l_W_65 iw_M_pair ew_M_pair nv_M_pair rfl (Nat.le_of_ble_eq_true rfl) (by omega : 11 + 1 ≤ _) (k_M_pair (n := n) (np := np) (by omega) hS1 h8 hS5 h12 _ _) hm1 mo_fr.rf (fun v9 S9 h2 hq2 hm2 hf2 => ?_)
  have ok := ok_pair hI hT1 qc hq2
  obtain ⟨⟨n2, np2, nl2, T2, t1, t2, hI2⟩, ok1, ok2⟩ := ok
  obtain ⟨H2, hoo⟩ := li_m (K := K + 1) hc1 hm1 r61 a61 ho1 o61 hb1 b61 hxs1 hm2 hf2 hI2 ⟨t1, by omega⟩
  obtain ⟨w9, e9⟩ : ∃ w9, v9 = some (.int w9) := by rcases hq2 with ⟨_, _, e⟩ | ⟨_, _, _, _, _, _, _, _, _, e, _⟩ <;> exact ⟨_, e⟩
  subst e9
  refine jm_istore d_W_law_271 (Nat.le_of_ble_eq_true rfl) ?_
  refine jm_aload_n d_W_law_273 rfl ?_
  refine mr_callp (As := []) d_W_law_274 l_W_55 iw_M_thrown ew_M_thrown nv_M_thrown rfl (Nat.le_of_ble_eq_true rfl) (by omega : 0 + 1 ≤ _) k_M_thrown hm2 ?_
  refine jm_iload d_W_law_277 rfl ?_
  refine jm_icmp_eq 284 d_W_law_279 (by decide) (fun _ => ?_) (fun ne => absurd ok1 ne)
  refine jm_iload d_W_law_284 rfl ?_
  refine jm_if_ne 301 d_W_law_286 (by decide) (fun _ => ?_) (fun z0 => ?_)
  · refine jm_goto 836 d_W_law_301 (by decide) ?_
    exact jm_W.room (by omega) (by omega) (k h2 _ _ H2)
  · obtain ⟨v8, rfl⟩ := kc2_0 (Decidable.not_not.mp z0)
    obtain ⟨y8, rfl⟩ : ∃ y, v8 = some (.int y) := (fun v L' sz' C' (q : _) => by rcases q with ⟨_, e, _⟩ | ⟨_, _, e, _⟩ | ⟨_, _, _, e, _⟩ <;> cases e; exact ⟨_, rfl⟩) v8 L1 sz1 C1 qc
    have e8 : h2.2 100 0 o = .long y8.toInt64 := (hoo _ _).trans (hy1 y8 rfl)
    refine jm_aload_n d_W_law_289 rfl ?_
    refine jm_iconstL (v := nI 0) d_W_law_290 (by decide) ?_
    refine jm_laload (n := 1) d_W_law_291 (by rw [hf2.1]; exact ho1) (vp_in_nI (by decide) (by decide)) ?_
    rw [show h2.2 100 (nI 0).toNatClampNeg o = .long y8.toInt64 from e8]
    refine jm_iload d_W_law_292 rfl ?_
    refine jm_i2l d_W_law_294 ?_
    refine jm_lcmp d_W_law_295 ?_
    refine jm_if_eq 301 d_W_law_296 (by decide) (fun _ => ?_) (fun ne => absurd ((lg_cmp_eq _ _).mpr (by rw [ok2 y8 w9 rfl rfl])) ne)
    refine jm_goto 836 d_W_law_301 (by decide) ?_
    exact jm_W.room (by omega) (by omega) (k h2 _ _ H2)
theorem case_cost (hd : 12 ≤ d) (hE : eInj Γ) (hi : i + 6 ≤ ln) (hln : ln ≤ 3072) (hK : K < 2 ^ 29) (hrc : 104 ≤ rc) (hrs : 2544 ≤ rs) (H : LI Γ b o x m ln xs K h) (k : ∀ h' u5 u6, LI Γ b o x m ln xs (K + 1) h' → jm_W Γ m_W_law d (rc - 104) (rs - 2544) Q 836 [some (.ref b), some (.ref x), some (.ref m), some (.ref o), some (.int (nI i)), u5, u6] [] h') : jm_W Γ m_W_law d rc rs Q 304 [some (.ref b), some (.ref x), some (.ref m), some (.ref o), some (.int (nI i)), u5, u6] [] h := by
  obtain ⟨L, ρ, sz, C, ar, S, n, np, nl, T, hc, hm, hI, ⟨hT1, hTK⟩, ⟨r6, a6⟩, ⟨ho, o6⟩, hb, b6, hxs⟩ := H
  obtain ⟨hS1, h8, hS5, h12, hS34, h20, hS2, hn, hp, hn34, h60, hs8, hs6, hs20⟩ := inv_sc hI
  refine jm_aload_n d_W_law_304 rfl ?_
  refine jm_aload_n d_W_law_305 rfl ?_
  refine jm_iload d_W_law_306 rfl ?_
  refine jm_iconstL (v := nI 1) d_W_law_308 (by decide) ?_
  refine jm_iadd d_W_law_309 ?_
  rw [nI_add]
  refine jm_sload d_W_law_310 hb (vp_in_nI (show i + 1 < ln by omega) (by omega)) ?_
  rw [nI_clamp (show i + 1 < 2 ^ 31 by omega), hxs (i + 1) (by omega)]
  refine jm_aload_n d_W_law_311 rfl ?_
  refine jm_iload d_W_law_312 rfl ?_
  refine jm_iconstL (v := nI 2) d_W_law_314 (by decide) ?_
  refine jm_iadd d_W_law_315 ?_
  rw [nI_add]
  refine jm_sload d_W_law_316 hb (vp_in_nI (show i + 2 < ln by omega) (by omega)) ?_
  rw [nI_clamp (show i + 2 < 2 ^ 31 by omega), hxs (i + 2) (by omega)]
  refine jm_aload_n d_W_law_317 rfl ?_
  refine jm_iload d_W_law_318 rfl ?_
  refine jm_iconstL (v := nI 3) d_W_law_320 (by decide) ?_
  refine jm_iadd d_W_law_321 ?_
  rw [nI_add]
  refine jm_sload d_W_law_322 hb (vp_in_nI (show i + 3 < ln by omega) (by omega)) ?_
  rw [nI_clamp (show i + 3 < 2 ^ 31 by omega), hxs (i + 3) (by omega)]
  refine jm_aload_n d_W_law_323 rfl ?_
  refine jm_iload d_W_law_324 rfl ?_
  refine jm_iconstL (v := nI 4) d_W_law_326 (by decide) ?_
  refine jm_iadd d_W_law_327 ?_
  rw [nI_add]
  refine jm_sload d_W_law_328 hb (vp_in_nI (show i + 4 < ln by omega) (by omega)) ?_
  rw [nI_clamp (show i + 4 < 2 ^ 31 by omega), hxs (i + 4) (by omega)]
  refine jm_aload_n d_W_law_329 rfl ?_
  refine jm_iload d_W_law_330 rfl ?_
  refine jm_iconstL (v := nI 5) d_W_law_332 (by decide) ?_
  refine jm_iadd d_W_law_333 ?_
  rw [nI_add]
  refine jm_sload d_W_law_334 hb (vp_in_nI (show i + 5 < ln by omega) (by omega)) ?_
  rw [nI_clamp (show i + 5 < 2 ^ 31 by omega), hxs (i + 5) (by omega)]
  refine jm_callS (As := [_, _, _, _, _, _]) d_W_law_335 l_W_66 sw_W_cost nv_W_cost rfl (Nat.le_of_ble_eq_true rfl) (by omega : 9 + 1 ≤ _) (by omega) (by omega) (w_cost (o := o) (k_B_cost (d := 8) (n := n) (np := np) (Nat.le_refl _) hn hs8 h8 (z4_of hI) hp hs6 h12) (fun v L' sz' C' q => by rcases q with ⟨_, e, _⟩ | ⟨_, _, e, _⟩ | ⟨_, _, e, _⟩ <;> cases e; rfl) (fun X L' sz' C' q => by rcases q with ⟨_, e, _⟩ | ⟨_, _, e, _⟩ | ⟨_, _, e, _⟩ <;> cases e <;> first | exact Or.inl rfl | exact Or.inr rfl) hc) (fun v h1 hq => ?_) (fun X h1 hq => by obtain ⟨_, _, _, _, _, _, e, _⟩ := hq; cases e)
  obtain ⟨r, L1, ρ1, sz1, C1, qc, e0, hc1, hx1, hy1⟩ := hq
  cases e0
  obtain ⟨hm1, r61, a61⟩ := mo_xo hm r6 a6 ho hx1
  obtain ⟨hb1, b61, hxs1, ho1, o61⟩ := li_x hb b6 hxs ho o6 hx1
  refine jm_istore d_W_law_338 (Nat.le_of_ble_eq_true rfl) ?_
  refine jm_aload_n d_W_law_340 rfl ?_
  refine jm_aload_n d_W_law_341 rfl ?_
  refine jm_iload d_W_law_342 rfl ?_
  refine jm_iconstL (v := nI 1) d_W_law_344 (by decide) ?_
  refine jm_iadd d_W_law_345 ?_
  rw [nI_add]
  refine jm_sload d_W_law_346 hb1 (vp_in_nI (show i + 1 < ln by omega) (by omega)) ?_
  rw [nI_clamp (show i + 1 < 2 ^ 31 by omega), hxs1 (i + 1) (by omega)]
  refine jm_aload_n d_W_law_347 rfl ?_
  refine jm_iload d_W_law_348 rfl ?_
  refine jm_iconstL (v := nI 2) d_W_law_350 (by decide) ?_
  refine jm_iadd d_W_law_351 ?_
  rw [nI_add]
  refine jm_sload d_W_law_352 hb1 (vp_in_nI (show i + 2 < ln by omega) (by omega)) ?_
  rw [nI_clamp (show i + 2 < 2 ^ 31 by omega), hxs1 (i + 2) (by omega)]
  refine jm_aload_n d_W_law_353 rfl ?_
  refine jm_iload d_W_law_354 rfl ?_
  refine jm_iconstL (v := nI 3) d_W_law_356 (by decide) ?_
  refine jm_iadd d_W_law_357 ?_
  rw [nI_add]
  refine jm_sload d_W_law_358 hb1 (vp_in_nI (show i + 3 < ln by omega) (by omega)) ?_
  rw [nI_clamp (show i + 3 < 2 ^ 31 by omega), hxs1 (i + 3) (by omega)]
  refine jm_aload_n d_W_law_359 rfl ?_
  refine jm_iload d_W_law_360 rfl ?_
  refine jm_iconstL (v := nI 4) d_W_law_362 (by decide) ?_
  refine jm_iadd d_W_law_363 ?_
  rw [nI_add]
  refine jm_sload d_W_law_364 hb1 (vp_in_nI (show i + 4 < ln by omega) (by omega)) ?_
  rw [nI_clamp (show i + 4 < 2 ^ 31 by omega), hxs1 (i + 4) (by omega)]
  refine jm_aload_n d_W_law_365 rfl ?_
  refine jm_iload d_W_law_366 rfl ?_
  refine jm_iconstL (v := nI 5) d_W_law_368 (by decide) ?_
  refine jm_iadd d_W_law_369 ?_
  rw [nI_add]
  refine jm_sload d_W_law_370 hb1 (vp_in_nI (show i + 5 < ln by omega) (by omega)) ?_
  rw [nI_clamp (show i + 5 < 2 ^ 31 by omega), hxs1 (i + 5) (by omega)]
  refine mr_call (As := [_, _, _, _, _]) d_W_law_371 l_W_69 iw_M_cost ew_M_cost nv_M_cost rfl (Nat.le_of_ble_eq_true rfl) (by omega : 11 + 1 ≤ _) (k_M_cost (n := n) (np := np) (by omega) hS1 h8 (sz_of hI.1) hS5 h12 _ _ _ _ _) hm1 mo_fr.rf (fun v9 S9 h2 hq2 hm2 hf2 => ?_)
  have ok := ok_cost hI hT1 qc hq2
  obtain ⟨⟨n2, np2, nl2, T2, t1, t2, hI2⟩, ok1, ok2⟩ := ok
  obtain ⟨H2, hoo⟩ := li_m (K := K + 1) hc1 hm1 r61 a61 ho1 o61 hb1 b61 hxs1 hm2 hf2 hI2 ⟨t1, by omega⟩
  have e9 : v9 = none := hq2.1
  subst e9
  refine jm_aload_n d_W_law_374 rfl ?_
  refine mr_callp (As := []) d_W_law_375 l_W_55 iw_M_thrown ew_M_thrown nv_M_thrown rfl (Nat.le_of_ble_eq_true rfl) (by omega : 0 + 1 ≤ _) k_M_thrown hm2 ?_
  refine jm_iload d_W_law_378 rfl ?_
  refine jm_icmp_eq 385 d_W_law_380 (by decide) (fun _ => ?_) (fun ne => absurd ok1 ne)
  refine jm_goto 836 d_W_law_385 (by decide) ?_
  exact jm_W.room (by omega) (by omega) (k h2 _ _ H2)
theorem case_start (hd : 12 ≤ d) (hE : eInj Γ) (hi : i + 6 ≤ ln) (hln : ln ≤ 3072) (hK : K < 2 ^ 29) (hrc : 104 ≤ rc) (hrs : 2544 ≤ rs) (H : LI Γ b o x m ln xs K h) (k : ∀ h' u5 u6, LI Γ b o x m ln xs (K + 1) h' → jm_W Γ m_W_law d (rc - 104) (rs - 2544) Q 836 [some (.ref b), some (.ref x), some (.ref m), some (.ref o), some (.int (nI i)), u5, u6] [] h') : jm_W Γ m_W_law d rc rs Q 388 [some (.ref b), some (.ref x), some (.ref m), some (.ref o), some (.int (nI i)), u5, u6] [] h := by
  obtain ⟨L, ρ, sz, C, ar, S, n, np, nl, T, hc, hm, hI, ⟨hT1, hTK⟩, ⟨r6, a6⟩, ⟨ho, o6⟩, hb, b6, hxs⟩ := H
  obtain ⟨hS1, h8, hS5, h12, hS34, h20, hS2, hn, hp, hn34, h60, hs8, hs6, hs20⟩ := inv_sc hI
  refine jm_aload_n d_W_law_388 rfl ?_
  refine jm_aload_n d_W_law_389 rfl ?_
  refine jm_callS (As := [_, _]) d_W_law_390 l_W_70 sw_W_start nv_W_start rfl (Nat.le_of_ble_eq_true rfl) (by omega : 9 + 1 ≤ _) (by omega) (by omega) (w_start (o := o) (k_B_start (d := 8) (Nat.le_refl _) hI hT1) (fun v L' sz' C' q => by rcases q with ⟨_, e, _⟩ | ⟨_, _, _, _, e, _⟩ <;> cases e; exact ⟨_, rfl⟩) (fun X L' sz' C' q => by rcases q with ⟨_, e, _⟩ | ⟨_, _, _, _, e, _⟩ <;> cases e; rfl) hc ho o6) (fun v h1 hq => ?_) (fun X h1 hq => by obtain ⟨_, _, _, _, _, _, e, _⟩ := hq; cases e)
  obtain ⟨r, L1, ρ1, sz1, C1, qc, e0, hc1, hx1, hy1⟩ := hq
  cases e0
  obtain ⟨hm1, r61, a61⟩ := mo_xo hm r6 a6 ho hx1
  obtain ⟨hb1, b61, hxs1, ho1, o61⟩ := li_x hb b6 hxs ho o6 hx1
  refine jm_istore d_W_law_393 (Nat.le_of_ble_eq_true rfl) ?_
  have hRk : thStart S = 0 → rkQ (spF (st0 S) n (MM (st0 S) n) n) n np := fun th => by
    rcases qc with ⟨e, _⟩ | ⟨_, _, _, _, _, _, e⟩
    · rw [th] at e; exact absurd e (by decide)
    · exact e
  refine jm_aload_n d_W_law_395 rfl ?_
  refine mr_call (As := []) d_W_law_396 l_W_73 iw_M_start ew_M_start nv_M_start rfl (Nat.le_of_ble_eq_true rfl) (by omega : 11 + 1 ≤ _) (k_M_start (n := n) (np := np) (M := MM (st0 S) n) (K := fun _ => n) (by omega) hS1 h8 (fun _ => st_of hI) hRk) hm1 mo_fr.rf (fun v9 S9 h2 hq2 hm2 hf2 => ?_)
  have ok := ok_start hI hT1 qc hq2
  obtain ⟨⟨n2, np2, nl2, T2, t1, t2, hI2⟩, ok1, ok2⟩ := ok
  obtain ⟨H2, hoo⟩ := li_m (K := K + 1) hc1 hm1 r61 a61 ho1 o61 hb1 b61 hxs1 hm2 hf2 hI2 ⟨t1, by omega⟩
  obtain ⟨w9, e9⟩ : ∃ w9, v9 = some (.int w9) := by rcases hq2 with ⟨_, _, e⟩ | ⟨_, _, e⟩ <;> exact ⟨_, e⟩
  subst e9
  refine jm_istore d_W_law_399 (Nat.le_of_ble_eq_true rfl) ?_
  refine jm_aload_n d_W_law_401 rfl ?_
  refine mr_callp (As := []) d_W_law_402 l_W_55 iw_M_thrown ew_M_thrown nv_M_thrown rfl (Nat.le_of_ble_eq_true rfl) (by omega : 0 + 1 ≤ _) k_M_thrown hm2 ?_
  refine jm_iload d_W_law_405 rfl ?_
  refine jm_icmp_eq 412 d_W_law_407 (by decide) (fun _ => ?_) (fun ne => absurd ok1 ne)
  refine jm_iload d_W_law_412 rfl ?_
  refine jm_if_ne 429 d_W_law_414 (by decide) (fun _ => ?_) (fun z0 => ?_)
  · refine jm_goto 836 d_W_law_429 (by decide) ?_
    exact jm_W.room (by omega) (by omega) (k h2 _ _ H2)
  · obtain ⟨v8, rfl⟩ := kcS_0 (Decidable.not_not.mp z0)
    obtain ⟨y8, rfl⟩ : ∃ y, v8 = some (.int y) := (fun v L' sz' C' (q : _) => by rcases q with ⟨_, e, _⟩ | ⟨_, _, _, _, e, _⟩ <;> cases e; exact ⟨_, rfl⟩) v8 L1 sz1 C1 qc
    have e8 : h2.2 100 0 o = .long y8.toInt64 := (hoo _ _).trans (hy1 y8 rfl)
    refine jm_aload_n d_W_law_417 rfl ?_
    refine jm_iconstL (v := nI 0) d_W_law_418 (by decide) ?_
    refine jm_laload (n := 1) d_W_law_419 (by rw [hf2.1]; exact ho1) (vp_in_nI (by decide) (by decide)) ?_
    rw [show h2.2 100 (nI 0).toNatClampNeg o = .long y8.toInt64 from e8]
    refine jm_iload d_W_law_420 rfl ?_
    refine jm_i2l d_W_law_422 ?_
    refine jm_lcmp d_W_law_423 ?_
    refine jm_if_eq 429 d_W_law_424 (by decide) (fun _ => ?_) (fun ne => absurd ((lg_cmp_eq _ _).mpr (by rw [ok2 y8 w9 rfl rfl])) ne)
    refine jm_goto 836 d_W_law_429 (by decide) ?_
    exact jm_W.room (by omega) (by omega) (k h2 _ _ H2)
theorem case_letter (hd : 12 ≤ d) (hE : eInj Γ) (hi : i + 6 ≤ ln) (hln : ln ≤ 3072) (hK : K < 2 ^ 29) (hrc : 104 ≤ rc) (hrs : 2544 ≤ rs) (H : LI Γ b o x m ln xs K h) (k : ∀ h' u5 u6, LI Γ b o x m ln xs (K + 1) h' → jm_W Γ m_W_law d (rc - 104) (rs - 2544) Q 836 [some (.ref b), some (.ref x), some (.ref m), some (.ref o), some (.int (nI i)), u5, u6] [] h') : jm_W Γ m_W_law d rc rs Q 432 [some (.ref b), some (.ref x), some (.ref m), some (.ref o), some (.int (nI i)), u5, u6] [] h := by
  obtain ⟨L, ρ, sz, C, ar, S, n, np, nl, T, hc, hm, hI, ⟨hT1, hTK⟩, ⟨r6, a6⟩, ⟨ho, o6⟩, hb, b6, hxs⟩ := H
  obtain ⟨hS1, h8, hS5, h12, hS34, h20, hS2, hn, hp, hn34, h60, hs8, hs6, hs20⟩ := inv_sc hI
  have hW0 : 0 < nl → ∃ A dd, WI S C n np nl T sz A dd noH 8 8 := fun q => by
    by_cases z : S 2 0 = 0
    · have := (inv_pre hI z).1; omega
    · exact inv_WI hI z
  have hdv : ∀ q, q < nl → xs (i + 1) = nI q → xs (i + 2) = 0 → dvH (dl0 S q nl) n np (N S 37 q) (N S 36 q) (nl - 1) := fun q hq _ _ => by
    obtain ⟨A, dd, W⟩ := hW0 (by omega)
    exact dv_of W hq
  refine jm_aload_n d_W_law_432 rfl ?_
  refine jm_aload_n d_W_law_433 rfl ?_
  refine jm_iload d_W_law_434 rfl ?_
  refine jm_iconstL (v := nI 1) d_W_law_436 (by decide) ?_
  refine jm_iadd d_W_law_437 ?_
  rw [nI_add]
  refine jm_sload d_W_law_438 hb (vp_in_nI (show i + 1 < ln by omega) (by omega)) ?_
  rw [nI_clamp (show i + 1 < 2 ^ 31 by omega), hxs (i + 1) (by omega)]
  refine jm_aload_n d_W_law_439 rfl ?_
  refine jm_iload d_W_law_440 rfl ?_
  refine jm_iconstL (v := nI 2) d_W_law_442 (by decide) ?_
  refine jm_iadd d_W_law_443 ?_
  rw [nI_add]
  refine jm_sload d_W_law_444 hb (vp_in_nI (show i + 2 < ln by omega) (by omega)) ?_
  rw [nI_clamp (show i + 2 < 2 ^ 31 by omega), hxs (i + 2) (by omega)]
  refine jm_aload_n d_W_law_445 rfl ?_
  refine jm_callS (As := [_, _, _, _]) d_W_law_446 l_W_74 sw_W_letter nv_W_letter rfl (Nat.le_of_ble_eq_true rfl) (by omega : 9 + 1 ≤ _) (by omega) (by omega) (w_letter (o := o) (k_B_letter (d := 8) (S := S) (n := n) (np := np) (nl := nl) (T := T) (Nat.le_refl _) hE hn34 hs20 h20 hS34 hW0) (fun v L' sz' C' q => by rcases q with ⟨_, e, _⟩ | ⟨_, e, _⟩ | ⟨_, e, _⟩ | ⟨_, _, _, _, _, _, _, _, _, e, _⟩ <;> cases e; exact ⟨_, rfl⟩) (fun X L' sz' C' q => by rcases q with ⟨_, e, _⟩ | ⟨_, e, _⟩ | ⟨_, e, _⟩ | ⟨_, _, _, _, _, _, _, _, _, e, _⟩ <;> cases e <;> first | exact Or.inl rfl | exact Or.inr (Or.inl rfl) | exact Or.inr (Or.inr rfl)) hc ho o6) (fun v h1 hq => ?_) (fun X h1 hq => by obtain ⟨_, _, _, _, _, _, e, _⟩ := hq; cases e)
  obtain ⟨r, L1, ρ1, sz1, C1, qc, e0, hc1, hx1, hy1⟩ := hq
  cases e0
  obtain ⟨hm1, r61, a61⟩ := mo_xo hm r6 a6 ho hx1
  obtain ⟨hb1, b61, hxs1, ho1, o61⟩ := li_x hb b6 hxs ho o6 hx1
  refine jm_istore d_W_law_449 (Nat.le_of_ble_eq_true rfl) ?_
  refine jm_aload_n d_W_law_451 rfl ?_
  refine jm_aload_n d_W_law_452 rfl ?_
  refine jm_iload d_W_law_453 rfl ?_
  refine jm_iconstL (v := nI 1) d_W_law_455 (by decide) ?_
  refine jm_iadd d_W_law_456 ?_
  rw [nI_add]
  refine jm_sload d_W_law_457 hb1 (vp_in_nI (show i + 1 < ln by omega) (by omega)) ?_
  rw [nI_clamp (show i + 1 < 2 ^ 31 by omega), hxs1 (i + 1) (by omega)]
  refine jm_aload_n d_W_law_458 rfl ?_
  refine jm_iload d_W_law_459 rfl ?_
  refine jm_iconstL (v := nI 2) d_W_law_461 (by decide) ?_
  refine jm_iadd d_W_law_462 ?_
  rw [nI_add]
  refine jm_sload d_W_law_463 hb1 (vp_in_nI (show i + 2 < ln by omega) (by omega)) ?_
  rw [nI_clamp (show i + 2 < 2 ^ 31 by omega), hxs1 (i + 2) (by omega)]
  refine mr_call (As := [_, _]) d_W_law_464 l_W_76 iw_M_letter ew_M_letter nv_M_letter rfl (Nat.le_of_ble_eq_true rfl) (by omega : 11 + 1 ≤ _) (k_M_letter (n := n) (np := np) (nl := nl) _ _ (by omega) hS34 h20 hdv) hm1 mo_fr.rf (fun v9 S9 h2 hq2 hm2 hf2 => ?_)
  have ok := ok_letter hI hT1 qc hq2
  obtain ⟨⟨n2, np2, nl2, T2, t1, t2, hI2⟩, ok1, ok2⟩ := ok
  obtain ⟨H2, hoo⟩ := li_m (K := K + 1) hc1 hm1 r61 a61 ho1 o61 hb1 b61 hxs1 hm2 hf2 hI2 ⟨t1, by omega⟩
  obtain ⟨w9, e9⟩ : ∃ w9, v9 = some (.int w9) := by rcases hq2 with ⟨_, _, e⟩ | ⟨_, _, _, _, ⟨_, _, _, e⟩ | ⟨_, _, e⟩ | ⟨_, _, e⟩⟩ <;> exact ⟨_, e⟩
  subst e9
  refine jm_istore d_W_law_467 (Nat.le_of_ble_eq_true rfl) ?_
  refine jm_aload_n d_W_law_469 rfl ?_
  refine mr_callp (As := []) d_W_law_470 l_W_55 iw_M_thrown ew_M_thrown nv_M_thrown rfl (Nat.le_of_ble_eq_true rfl) (by omega : 0 + 1 ≤ _) k_M_thrown hm2 ?_
  refine jm_iload d_W_law_473 rfl ?_
  refine jm_icmp_eq 480 d_W_law_475 (by decide) (fun _ => ?_) (fun ne => absurd ok1 ne)
  refine jm_iload d_W_law_480 rfl ?_
  refine jm_if_ne 497 d_W_law_482 (by decide) (fun _ => ?_) (fun z0 => ?_)
  · refine jm_goto 836 d_W_law_497 (by decide) ?_
    exact jm_W.room (by omega) (by omega) (k h2 _ _ H2)
  · obtain ⟨v8, rfl⟩ := kc3_0 (Decidable.not_not.mp z0)
    obtain ⟨y8, rfl⟩ : ∃ y, v8 = some (.int y) := (fun v L' sz' C' (q : _) => by rcases q with ⟨_, e, _⟩ | ⟨_, e, _⟩ | ⟨_, e, _⟩ | ⟨_, _, _, _, _, _, _, _, _, e, _⟩ <;> cases e; exact ⟨_, rfl⟩) v8 L1 sz1 C1 qc
    have e8 : h2.2 100 0 o = .long y8.toInt64 := (hoo _ _).trans (hy1 y8 rfl)
    refine jm_aload_n d_W_law_485 rfl ?_
    refine jm_iconstL (v := nI 0) d_W_law_486 (by decide) ?_
    refine jm_laload (n := 1) d_W_law_487 (by rw [hf2.1]; exact ho1) (vp_in_nI (by decide) (by decide)) ?_
    rw [show h2.2 100 (nI 0).toNatClampNeg o = .long y8.toInt64 from e8]
    refine jm_iload d_W_law_488 rfl ?_
    refine jm_i2l d_W_law_490 ?_
    refine jm_lcmp d_W_law_491 ?_
    refine jm_if_eq 497 d_W_law_492 (by decide) (fun _ => ?_) (fun ne => absurd ((lg_cmp_eq _ _).mpr (by rw [ok2 y8 w9 rfl rfl])) ne)
    refine jm_goto 836 d_W_law_497 (by decide) ?_
    exact jm_W.room (by omega) (by omega) (k h2 _ _ H2)
theorem case_told (hd : 12 ≤ d) (hE : eInj Γ) (hi : i + 6 ≤ ln) (hln : ln ≤ 3072) (hK : K < 2 ^ 29) (hrc : 104 ≤ rc) (hrs : 2544 ≤ rs) (H : LI Γ b o x m ln xs K h) (k : ∀ h' u5 u6, LI Γ b o x m ln xs (K + 1) h' → jm_W Γ m_W_law d (rc - 104) (rs - 2544) Q 836 [some (.ref b), some (.ref x), some (.ref m), some (.ref o), some (.int (nI i)), u5, u6] [] h') : jm_W Γ m_W_law d rc rs Q 500 [some (.ref b), some (.ref x), some (.ref m), some (.ref o), some (.int (nI i)), u5, u6] [] h := by
  obtain ⟨L, ρ, sz, C, ar, S, n, np, nl, T, hc, hm, hI, ⟨hT1, hTK⟩, ⟨r6, a6⟩, ⟨ho, o6⟩, hb, b6, hxs⟩ := H
  obtain ⟨hS1, h8, hS5, h12, hS34, h20, hS2, hn, hp, hn34, h60, hs8, hs6, hs20⟩ := inv_sc hI
  have hLV : ∀ k, k < nl → LVk S n k := fun k hk => by
    by_cases z : S 2 0 = 0
    · have := (inv_pre hI z).1; omega
    · obtain ⟨A, dd, W⟩ := inv_WI hI z
      exact W.2.2.2.2.1 k hk
  have htl : ∀ q, q < nl → 2 ≤ S 35 q → xs (i + 2) - 10 < S 39 q → xs (i + 2) < 266 := fun q hq => by
    by_cases z : S 2 0 = 0
    · have := (inv_pre hI z).1; omega
    · obtain ⟨A, dd, W⟩ := inv_WI hI z
      exact tl_of W _ q hq
  refine jm_aload_n d_W_law_500 rfl ?_
  refine jm_aload_n d_W_law_501 rfl ?_
  refine jm_iload d_W_law_502 rfl ?_
  refine jm_iconstL (v := nI 1) d_W_law_504 (by decide) ?_
  refine jm_iadd d_W_law_505 ?_
  rw [nI_add]
  refine jm_sload d_W_law_506 hb (vp_in_nI (show i + 1 < ln by omega) (by omega)) ?_
  rw [nI_clamp (show i + 1 < 2 ^ 31 by omega), hxs (i + 1) (by omega)]
  refine jm_aload_n d_W_law_507 rfl ?_
  refine jm_iload d_W_law_508 rfl ?_
  refine jm_iconstL (v := nI 2) d_W_law_510 (by decide) ?_
  refine jm_iadd d_W_law_511 ?_
  rw [nI_add]
  refine jm_sload d_W_law_512 hb (vp_in_nI (show i + 2 < ln by omega) (by omega)) ?_
  rw [nI_clamp (show i + 2 < 2 ^ 31 by omega), hxs (i + 2) (by omega)]
  refine cr_callp (r := ("BargainTree", jm_F0, 9)) (As := [_, _]) d_W_law_513 l_W_77 iw_B_told ew_B_told rfl nv_B_told rfl (hc.1 1 0 rfl).1 (Nat.le_of_ble_eq_true rfl) (by omega : 8 + 1 ≤ _) (k_B_told (d := 8) (nl := nl) (by decide) hn34 hs20 h20 _ _) hc ?_
  refine jm_aload_n d_W_law_516 rfl ?_
  refine jm_aload_n d_W_law_517 rfl ?_
  refine jm_iload d_W_law_518 rfl ?_
  refine jm_iconstL (v := nI 1) d_W_law_520 (by decide) ?_
  refine jm_iadd d_W_law_521 ?_
  rw [nI_add]
  refine jm_sload d_W_law_522 hb (vp_in_nI (show i + 1 < ln by omega) (by omega)) ?_
  rw [nI_clamp (show i + 1 < 2 ^ 31 by omega), hxs (i + 1) (by omega)]
  refine jm_aload_n d_W_law_523 rfl ?_
  refine jm_iload d_W_law_524 rfl ?_
  refine jm_iconstL (v := nI 2) d_W_law_526 (by decide) ?_
  refine jm_iadd d_W_law_527 ?_
  rw [nI_add]
  refine jm_sload d_W_law_528 hb (vp_in_nI (show i + 2 < ln by omega) (by omega)) ?_
  rw [nI_clamp (show i + 2 < 2 ^ 31 by omega), hxs (i + 2) (by omega)]
  refine mr_call (As := [_, _]) d_W_law_529 l_W_80 iw_M_told ew_M_told nv_M_told rfl (Nat.le_of_ble_eq_true rfl) (by omega : 11 + 1 ≤ _) (k_M_told (nl := nl) (by omega) hS34 h20 _ _ htl) hm mo_fr.rf (fun v9 S9 h2 hq2 hm2 hf2 => ?_)
  obtain ⟨rfl, rfl⟩ := hq2
  obtain ⟨H2, -⟩ := li_m (K := K + 1) hc hm r6 a6 ho o6 hb b6 hxs hm2 hf2 (INV_0 (y := 0) hI) ⟨hT1, by omega⟩
  refine jm_icmp_eq 836 d_W_law_532 (by decide) (fun _ => ?_) (fun ne => absurd (told_eq hn34 hS34 h20 hI.2.1.2.2.2.2.2.2.2.2.2 hLV _ _) ne)
  exact jm_W.room (by omega) (by omega) (k h2 _ _ H2)
theorem case_again (hd : 12 ≤ d) (hE : eInj Γ) (hi : i + 6 ≤ ln) (hln : ln ≤ 3072) (hK : K < 2 ^ 29) (hrc : 104 ≤ rc) (hrs : 2544 ≤ rs) (H : LI Γ b o x m ln xs K h) (k : ∀ h' u5 u6, LI Γ b o x m ln xs (K + 1) h' → jm_W Γ m_W_law d (rc - 104) (rs - 2544) Q 836 [some (.ref b), some (.ref x), some (.ref m), some (.ref o), some (.int (nI i)), u5, u6] [] h') : jm_W Γ m_W_law d rc rs Q 537 [some (.ref b), some (.ref x), some (.ref m), some (.ref o), some (.int (nI i)), u5, u6] [] h := by
  obtain ⟨L, ρ, sz, C, ar, S, n, np, nl, T, hc, hm, hI, ⟨hT1, hTK⟩, ⟨r6, a6⟩, ⟨ho, o6⟩, hb, b6, hxs⟩ := H
  obtain ⟨hS1, h8, hS5, h12, hS34, h20, hS2, hn, hp, hn34, h60, hs8, hs6, hs20⟩ := inv_sc hI
  have hag : ∀ a, a < n → S 21 a = nI (N S 21 a) ∧ N S 21 a ≤ 8 ∧ (¬ S 23 a ≤ 0 → ∃ w, S 25 a = nI w ∧ w ≤ 256) := by
    by_cases z : S 2 0 = 0
    · intro a ha
      have g := pre_rows (inv_pre hI z) (show a < 8 by omega)
      have n21 := (hI.1.2.2.2.2.2.2.2.2.2.1 a (by omega)).2.2.2.2.2.1
      exact ⟨n21.1, by have := n21.2; omega, fun q => absurd (by rw [g.2.2.2.2.2.2.2.2.2.2.1]; decide) q⟩
    · obtain ⟨A, dd, W⟩ := inv_WI hI z
      exact ag_of W
  refine jm_aload_n d_W_law_537 rfl ?_
  refine jm_aload_n d_W_law_538 rfl ?_
  refine jm_iload d_W_law_539 rfl ?_
  refine jm_iconstL (v := nI 1) d_W_law_541 (by decide) ?_
  refine jm_iadd d_W_law_542 ?_
  rw [nI_add]
  refine jm_sload d_W_law_543 hb (vp_in_nI (show i + 1 < ln by omega) (by omega)) ?_
  rw [nI_clamp (show i + 1 < 2 ^ 31 by omega), hxs (i + 1) (by omega)]
  refine jm_aload_n d_W_law_544 rfl ?_
  refine jm_callS (As := [_, _, _]) d_W_law_545 l_W_81 sw_W_again nv_W_again rfl (Nat.le_of_ble_eq_true rfl) (by omega : 9 + 1 ≤ _) (by omega) (by omega) (w_again (o := o) (k_B_again (d := 8) (S := S) (n := n) (np := np) (nl := nl) (T := T) (Nat.le_refl _) hE hn hS1 hs8 h8 h60 (inv_WI hI)) (fun v L' sz' C' q => by rcases q with ⟨_, e, _⟩ | ⟨_, e, _⟩ | ⟨_, _, _, _, _, _, _, _, e, _⟩ <;> cases e; exact ⟨_, rfl⟩) (fun X L' sz' C' q => by rcases q with ⟨_, e, _⟩ | ⟨_, e, _⟩ | ⟨_, _, _, _, _, _, _, _, e, _⟩ <;> cases e <;> first | exact Or.inl rfl | exact Or.inr rfl) hc ho o6) (fun v h1 hq => ?_) (fun X h1 hq => by obtain ⟨_, _, _, _, _, _, e, _⟩ := hq; cases e)
  obtain ⟨r, L1, ρ1, sz1, C1, qc, e0, hc1, hx1, hy1⟩ := hq
  cases e0
  obtain ⟨hm1, r61, a61⟩ := mo_xo hm r6 a6 ho hx1
  obtain ⟨hb1, b61, hxs1, ho1, o61⟩ := li_x hb b6 hxs ho o6 hx1
  refine jm_istore d_W_law_548 (Nat.le_of_ble_eq_true rfl) ?_
  refine jm_aload_n d_W_law_550 rfl ?_
  refine jm_aload_n d_W_law_551 rfl ?_
  refine jm_iload d_W_law_552 rfl ?_
  refine jm_iconstL (v := nI 1) d_W_law_554 (by decide) ?_
  refine jm_iadd d_W_law_555 ?_
  rw [nI_add]
  refine jm_sload d_W_law_556 hb1 (vp_in_nI (show i + 1 < ln by omega) (by omega)) ?_
  rw [nI_clamp (show i + 1 < 2 ^ 31 by omega), hxs1 (i + 1) (by omega)]
  refine mr_call (As := [_]) d_W_law_557 l_W_83 iw_M_again ew_M_again nv_M_again rfl (Nat.le_of_ble_eq_true rfl) (by omega : 11 + 1 ≤ _) (k_M_again (n := n) (nl := nl) _ (by omega) hS1 h8 hS34 h20 hag) hm1 mo_fr.rf (fun v9 S9 h2 hq2 hm2 hf2 => ?_)
  have ok := ok_again hI hT1 qc hq2
  obtain ⟨⟨n2, np2, nl2, T2, t1, t2, hI2⟩, ok1, ok2⟩ := ok
  obtain ⟨H2, hoo⟩ := li_m (K := K + 1) hc1 hm1 r61 a61 ho1 o61 hb1 b61 hxs1 hm2 hf2 hI2 ⟨t1, by omega⟩
  obtain ⟨w9, e9⟩ : ∃ w9, v9 = some (.int w9) := by rcases hq2 with ⟨_, _, e⟩ | ⟨_, _, _, _, _, e⟩ <;> exact ⟨_, e⟩
  subst e9
  refine jm_istore d_W_law_560 (Nat.le_of_ble_eq_true rfl) ?_
  refine jm_aload_n d_W_law_562 rfl ?_
  refine mr_callp (As := []) d_W_law_563 l_W_55 iw_M_thrown ew_M_thrown nv_M_thrown rfl (Nat.le_of_ble_eq_true rfl) (by omega : 0 + 1 ≤ _) k_M_thrown hm2 ?_
  refine jm_iload d_W_law_566 rfl ?_
  refine jm_icmp_eq 573 d_W_law_568 (by decide) (fun _ => ?_) (fun ne => absurd ok1 ne)
  refine jm_iload d_W_law_573 rfl ?_
  refine jm_if_ne 590 d_W_law_575 (by decide) (fun _ => ?_) (fun z0 => ?_)
  · refine jm_goto 836 d_W_law_590 (by decide) ?_
    exact jm_W.room (by omega) (by omega) (k h2 _ _ H2)
  · obtain ⟨v8, rfl⟩ := kc2_0 (Decidable.not_not.mp z0)
    obtain ⟨y8, rfl⟩ : ∃ y, v8 = some (.int y) := (fun v L' sz' C' (q : _) => by rcases q with ⟨_, e, _⟩ | ⟨_, e, _⟩ | ⟨_, _, _, _, _, _, _, _, e, _⟩ <;> cases e; exact ⟨_, rfl⟩) v8 L1 sz1 C1 qc
    have e8 : h2.2 100 0 o = .long y8.toInt64 := (hoo _ _).trans (hy1 y8 rfl)
    refine jm_aload_n d_W_law_578 rfl ?_
    refine jm_iconstL (v := nI 0) d_W_law_579 (by decide) ?_
    refine jm_laload (n := 1) d_W_law_580 (by rw [hf2.1]; exact ho1) (vp_in_nI (by decide) (by decide)) ?_
    rw [show h2.2 100 (nI 0).toNatClampNeg o = .long y8.toInt64 from e8]
    refine jm_iload d_W_law_581 rfl ?_
    refine jm_i2l d_W_law_583 ?_
    refine jm_lcmp d_W_law_584 ?_
    refine jm_if_eq 590 d_W_law_585 (by decide) (fun _ => ?_) (fun ne => absurd ((lg_cmp_eq _ _).mpr (by rw [ok2 y8 w9 rfl rfl])) ne)
    refine jm_goto 836 d_W_law_590 (by decide) ?_
    exact jm_W.room (by omega) (by omega) (k h2 _ _ H2)
theorem case_change (hd : 12 ≤ d) (hE : eInj Γ) (hi : i + 6 ≤ ln) (hln : ln ≤ 3072) (hK : K < 2 ^ 29) (hrc : 104 ≤ rc) (hrs : 2544 ≤ rs) (H : LI Γ b o x m ln xs K h) (k : ∀ h' u5 u6, LI Γ b o x m ln xs (K + 1) h' → jm_W Γ m_W_law d (rc - 104) (rs - 2544) Q 836 [some (.ref b), some (.ref x), some (.ref m), some (.ref o), some (.int (nI i)), u5, u6] [] h') : jm_W Γ m_W_law d rc rs Q 593 [some (.ref b), some (.ref x), some (.ref m), some (.ref o), some (.int (nI i)), u5, u6] [] h := by
  obtain ⟨L, ρ, sz, C, ar, S, n, np, nl, T, hc, hm, hI, ⟨hT1, hTK⟩, ⟨r6, a6⟩, ⟨ho, o6⟩, hb, b6, hxs⟩ := H
  obtain ⟨hS1, h8, hS5, h12, hS34, h20, hS2, hn, hp, hn34, h60, hs8, hs6, hs20⟩ := inv_sc hI
  have hcg : thChange S n np (xs (i + 1)) (xs (i + 2)) (xs (i + 3)) (xs (i + 4)) (xs (i + 5)) = 0 → ∀ k l p v' w' q, cgI S n np (xs (i + 1)) (xs (i + 2)) (xs (i + 3)) (xs (i + 4)) k l p v' w' q → wkK (cg0 S p k v' w' (xs (i + 5)) q) n (if cI (S 17 k) (xs (i + 2)) then k else l) np nl := fun th => by
    have hs : S 2 0 ≠ 0 := fun z => by
      have e : stF S n = 0 := if_pos z
      have q0 := thF_0.mp th
      rw [e] at q0
      exact q0.2 ⟨by decide, by decide⟩
    obtain ⟨A, dd, W⟩ := inv_WI hI hs
    exact cg_of W (by omega) th
  refine jm_aload_n d_W_law_593 rfl ?_
  refine jm_aload_n d_W_law_594 rfl ?_
  refine jm_iload d_W_law_595 rfl ?_
  refine jm_iconstL (v := nI 1) d_W_law_597 (by decide) ?_
  refine jm_iadd d_W_law_598 ?_
  rw [nI_add]
  refine jm_sload d_W_law_599 hb (vp_in_nI (show i + 1 < ln by omega) (by omega)) ?_
  rw [nI_clamp (show i + 1 < 2 ^ 31 by omega), hxs (i + 1) (by omega)]
  refine jm_aload_n d_W_law_600 rfl ?_
  refine jm_iload d_W_law_601 rfl ?_
  refine jm_iconstL (v := nI 2) d_W_law_603 (by decide) ?_
  refine jm_iadd d_W_law_604 ?_
  rw [nI_add]
  refine jm_sload d_W_law_605 hb (vp_in_nI (show i + 2 < ln by omega) (by omega)) ?_
  rw [nI_clamp (show i + 2 < 2 ^ 31 by omega), hxs (i + 2) (by omega)]
  refine jm_aload_n d_W_law_606 rfl ?_
  refine jm_iload d_W_law_607 rfl ?_
  refine jm_iconstL (v := nI 3) d_W_law_609 (by decide) ?_
  refine jm_iadd d_W_law_610 ?_
  rw [nI_add]
  refine jm_sload d_W_law_611 hb (vp_in_nI (show i + 3 < ln by omega) (by omega)) ?_
  rw [nI_clamp (show i + 3 < 2 ^ 31 by omega), hxs (i + 3) (by omega)]
  refine jm_aload_n d_W_law_612 rfl ?_
  refine jm_iload d_W_law_613 rfl ?_
  refine jm_iconstL (v := nI 4) d_W_law_615 (by decide) ?_
  refine jm_iadd d_W_law_616 ?_
  rw [nI_add]
  refine jm_sload d_W_law_617 hb (vp_in_nI (show i + 4 < ln by omega) (by omega)) ?_
  rw [nI_clamp (show i + 4 < 2 ^ 31 by omega), hxs (i + 4) (by omega)]
  refine jm_aload_n d_W_law_618 rfl ?_
  refine jm_iload d_W_law_619 rfl ?_
  refine jm_iconstL (v := nI 5) d_W_law_621 (by decide) ?_
  refine jm_iadd d_W_law_622 ?_
  rw [nI_add]
  refine jm_sload d_W_law_623 hb (vp_in_nI (show i + 5 < ln by omega) (by omega)) ?_
  rw [nI_clamp (show i + 5 < 2 ^ 31 by omega), hxs (i + 5) (by omega)]
  refine jm_aload_n d_W_law_624 rfl ?_
  refine jm_callS (As := [_, _, _, _, _, _, _]) d_W_law_625 l_W_84 sw_W_change nv_W_change rfl (Nat.le_of_ble_eq_true rfl) (by omega : 9 + 1 ≤ _) (by omega) (by omega) (w_change (o := o) (k_B_change (d := 8) (Nat.le_refl _) hI (by omega)) (fun v L' sz' C' q => by rcases q with ⟨_, e, _⟩ | ⟨_, e, _⟩ | ⟨_, _, _, _, _, _, _, _, _, _, _, _, e, _⟩ <;> cases e; exact ⟨_, rfl⟩) (fun X L' sz' C' q => by rcases q with ⟨_, e, _⟩ | ⟨_, e, _⟩ | ⟨_, _, _, _, _, _, _, _, _, _, _, _, e, _⟩ <;> cases e <;> first | exact Or.inl rfl | exact Or.inr rfl) hc ho o6) (fun v h1 hq => ?_) (fun X h1 hq => by obtain ⟨_, _, _, _, _, _, e, _⟩ := hq; cases e)
  obtain ⟨r, L1, ρ1, sz1, C1, qc, e0, hc1, hx1, hy1⟩ := hq
  cases e0
  obtain ⟨hm1, r61, a61⟩ := mo_xo hm r6 a6 ho hx1
  obtain ⟨hb1, b61, hxs1, ho1, o61⟩ := li_x hb b6 hxs ho o6 hx1
  refine jm_istore d_W_law_628 (Nat.le_of_ble_eq_true rfl) ?_
  refine jm_aload_n d_W_law_630 rfl ?_
  refine jm_aload_n d_W_law_631 rfl ?_
  refine jm_iload d_W_law_632 rfl ?_
  refine jm_iconstL (v := nI 1) d_W_law_634 (by decide) ?_
  refine jm_iadd d_W_law_635 ?_
  rw [nI_add]
  refine jm_sload d_W_law_636 hb1 (vp_in_nI (show i + 1 < ln by omega) (by omega)) ?_
  rw [nI_clamp (show i + 1 < 2 ^ 31 by omega), hxs1 (i + 1) (by omega)]
  refine jm_aload_n d_W_law_637 rfl ?_
  refine jm_iload d_W_law_638 rfl ?_
  refine jm_iconstL (v := nI 2) d_W_law_640 (by decide) ?_
  refine jm_iadd d_W_law_641 ?_
  rw [nI_add]
  refine jm_sload d_W_law_642 hb1 (vp_in_nI (show i + 2 < ln by omega) (by omega)) ?_
  rw [nI_clamp (show i + 2 < 2 ^ 31 by omega), hxs1 (i + 2) (by omega)]
  refine jm_aload_n d_W_law_643 rfl ?_
  refine jm_iload d_W_law_644 rfl ?_
  refine jm_iconstL (v := nI 3) d_W_law_646 (by decide) ?_
  refine jm_iadd d_W_law_647 ?_
  rw [nI_add]
  refine jm_sload d_W_law_648 hb1 (vp_in_nI (show i + 3 < ln by omega) (by omega)) ?_
  rw [nI_clamp (show i + 3 < 2 ^ 31 by omega), hxs1 (i + 3) (by omega)]
  refine jm_aload_n d_W_law_649 rfl ?_
  refine jm_iload d_W_law_650 rfl ?_
  refine jm_iconstL (v := nI 4) d_W_law_652 (by decide) ?_
  refine jm_iadd d_W_law_653 ?_
  rw [nI_add]
  refine jm_sload d_W_law_654 hb1 (vp_in_nI (show i + 4 < ln by omega) (by omega)) ?_
  rw [nI_clamp (show i + 4 < 2 ^ 31 by omega), hxs1 (i + 4) (by omega)]
  refine jm_aload_n d_W_law_655 rfl ?_
  refine jm_iload d_W_law_656 rfl ?_
  refine jm_iconstL (v := nI 5) d_W_law_658 (by decide) ?_
  refine jm_iadd d_W_law_659 ?_
  rw [nI_add]
  refine jm_sload d_W_law_660 hb1 (vp_in_nI (show i + 5 < ln by omega) (by omega)) ?_
  rw [nI_clamp (show i + 5 < 2 ^ 31 by omega), hxs1 (i + 5) (by omega)]
  refine mr_call (As := [_, _, _, _, _]) d_W_law_661 l_W_87 iw_M_change ew_M_change nv_M_change rfl (Nat.le_of_ble_eq_true rfl) (by omega : 11 + 1 ≤ _) (k_M_change (n := n) (np := np) (nl := nl) (by omega) hS1 h8 (sz_of hI.1) hS5 h12 (inv_pt hI).2.2 _ _ _ _ _ hcg) hm1 mo_fr.rf (fun v9 S9 h2 hq2 hm2 hf2 => ?_)
  have ok := ok_change hI hT1 qc hq2
  obtain ⟨⟨n2, np2, nl2, T2, t1, t2, hI2⟩, ok1, ok2⟩ := ok
  obtain ⟨H2, hoo⟩ := li_m (K := K + 1) hc1 hm1 r61 a61 ho1 o61 hb1 b61 hxs1 hm2 hf2 hI2 ⟨t1, by omega⟩
  obtain ⟨w9, e9⟩ : ∃ w9, v9 = some (.int w9) := by rcases hq2 with ⟨_, _, e⟩ | ⟨_, _, _, _, _, _, _, _, _, e⟩ <;> exact ⟨_, e⟩
  subst e9
  refine jm_istore d_W_law_664 (Nat.le_of_ble_eq_true rfl) ?_
  refine jm_aload_n d_W_law_666 rfl ?_
  refine mr_callp (As := []) d_W_law_667 l_W_55 iw_M_thrown ew_M_thrown nv_M_thrown rfl (Nat.le_of_ble_eq_true rfl) (by omega : 0 + 1 ≤ _) k_M_thrown hm2 ?_
  refine jm_iload d_W_law_670 rfl ?_
  refine jm_icmp_eq 677 d_W_law_672 (by decide) (fun _ => ?_) (fun ne => absurd ok1 ne)
  refine jm_iload d_W_law_677 rfl ?_
  refine jm_if_ne 694 d_W_law_679 (by decide) (fun _ => ?_) (fun z0 => ?_)
  · refine jm_goto 836 d_W_law_694 (by decide) ?_
    exact jm_W.room (by omega) (by omega) (k h2 _ _ H2)
  · obtain ⟨v8, rfl⟩ := kc2_0 (Decidable.not_not.mp z0)
    obtain ⟨y8, rfl⟩ : ∃ y, v8 = some (.int y) := (fun v L' sz' C' (q : _) => by rcases q with ⟨_, e, _⟩ | ⟨_, e, _⟩ | ⟨_, _, _, _, _, _, _, _, _, _, _, _, e, _⟩ <;> cases e; exact ⟨_, rfl⟩) v8 L1 sz1 C1 qc
    have e8 : h2.2 100 0 o = .long y8.toInt64 := (hoo _ _).trans (hy1 y8 rfl)
    refine jm_aload_n d_W_law_682 rfl ?_
    refine jm_iconstL (v := nI 0) d_W_law_683 (by decide) ?_
    refine jm_laload (n := 1) d_W_law_684 (by rw [hf2.1]; exact ho1) (vp_in_nI (by decide) (by decide)) ?_
    rw [show h2.2 100 (nI 0).toNatClampNeg o = .long y8.toInt64 from e8]
    refine jm_iload d_W_law_685 rfl ?_
    refine jm_i2l d_W_law_687 ?_
    refine jm_lcmp d_W_law_688 ?_
    refine jm_if_eq 694 d_W_law_689 (by decide) (fun _ => ?_) (fun ne => absurd ((lg_cmp_eq _ _).mpr (by rw [ok2 y8 w9 rfl rfl])) ne)
    refine jm_goto 836 d_W_law_694 (by decide) ?_
    exact jm_W.room (by omega) (by omega) (k h2 _ _ H2)
theorem case_done (hd : 12 ≤ d) (hE : eInj Γ) (hi : i + 6 ≤ ln) (hln : ln ≤ 3072) (hK : K < 2 ^ 29) (hrc : 104 ≤ rc) (hrs : 2544 ≤ rs) (H : LI Γ b o x m ln xs K h) (k : ∀ h' u5 u6, LI Γ b o x m ln xs (K + 1) h' → jm_W Γ m_W_law d (rc - 104) (rs - 2544) Q 836 [some (.ref b), some (.ref x), some (.ref m), some (.ref o), some (.int (nI i)), u5, u6] [] h') : jm_W Γ m_W_law d rc rs Q 697 [some (.ref b), some (.ref x), some (.ref m), some (.ref o), some (.int (nI i)), u5, u6] [] h := by
  obtain ⟨L, ρ, sz, C, ar, S, n, np, nl, T, hc, hm, hI, ⟨hT1, hTK⟩, ⟨r6, a6⟩, ⟨ho, o6⟩, hb, b6, hxs⟩ := H
  obtain ⟨hS1, h8, hS5, h12, hS34, h20, hS2, hn, hp, hn34, h60, hs8, hs6, hs20⟩ := inv_sc hI
  have hdp : C 60 0 = 0 → ∀ k, k < n → ptC sz C k := fun z => (inv_pt hI).1 ((s2_iff hI).mp z)
  refine jm_aload_n d_W_law_697 rfl ?_
  refine cr_callp (r := ("BargainTree", jm_F0, 9)) (As := []) d_W_law_698 l_W_88 iw_B_done ew_B_done rfl nv_B_done rfl (hc.1 1 0 rfl).1 (Nat.le_of_ble_eq_true rfl) (by omega : 8 + 1 ≤ _) (k_B_done (d := 8) (n := n) (by decide) hn hs8 h8 hdp) hc ?_
  refine jm_aload_n d_W_law_701 rfl ?_
  refine mr_call (As := []) d_W_law_702 l_W_91 iw_M_done ew_M_done nv_M_done rfl (Nat.le_of_ble_eq_true rfl) (by omega : 11 + 1 ≤ _) (k_M_done (n := n) (by omega) hS1 h8 (inv_pt hI).2.2) hm mo_fr.rf (fun v9 S9 h2 hq2 hm2 hf2 => ?_)
  obtain ⟨rfl, rfl⟩ := hq2
  obtain ⟨H2, -⟩ := li_m (K := K + 1) hc hm r6 a6 ho o6 hb b6 hxs hm2 hf2 (INV_0 (y := 0) hI) ⟨hT1, by omega⟩
  refine jm_icmp_eq 836 d_W_law_705 (by decide) (fun _ => ?_) (fun ne => absurd ((inv_st hI).1) ne)
  exact jm_W.room (by omega) (by omega) (k h2 _ _ H2)
theorem case_value (hd : 12 ≤ d) (hE : eInj Γ) (hi : i + 6 ≤ ln) (hln : ln ≤ 3072) (hK : K < 2 ^ 29) (hrc : 104 ≤ rc) (hrs : 2544 ≤ rs) (H : LI Γ b o x m ln xs K h) (k : ∀ h' u5 u6, LI Γ b o x m ln xs (K + 1) h' → jm_W Γ m_W_law d (rc - 104) (rs - 2544) Q 836 [some (.ref b), some (.ref x), some (.ref m), some (.ref o), some (.int (nI i)), u5, u6] [] h') : jm_W Γ m_W_law d rc rs Q 710 [some (.ref b), some (.ref x), some (.ref m), some (.ref o), some (.int (nI i)), u5, u6] [] h := by
  obtain ⟨L, ρ, sz, C, ar, S, n, np, nl, T, hc, hm, hI, ⟨hT1, hTK⟩, ⟨r6, a6⟩, ⟨ho, o6⟩, hb, b6, hxs⟩ := H
  obtain ⟨hS1, h8, hS5, h12, hS34, h20, hS2, hn, hp, hn34, h60, hs8, hs6, hs20⟩ := inv_sc hI
  have hvp : ∀ k, k < n → C 10 k = -1 ∨ ptC sz C k := fun k hk => by
    by_cases z : S 2 0 = 0
    · exact Or.inl ((inv_pt hI).2.1 z k hk)
    · exact Or.inr ((inv_pt hI).1 z k hk)
  have hv59 : ∀ k, k < n → C 59 k = -1 ∨ C 59 k = 8 := fun k hk => by
    rw [(hI.2.1.2.2.2.2.2.1 k hk).1]; split
    · exact Or.inl rfl
    · exact Or.inr rfl
  refine jm_aload_n d_W_law_710 rfl ?_
  refine jm_aload_n d_W_law_711 rfl ?_
  refine jm_iload d_W_law_712 rfl ?_
  refine jm_iconstL (v := nI 1) d_W_law_714 (by decide) ?_
  refine jm_iadd d_W_law_715 ?_
  rw [nI_add]
  refine jm_sload d_W_law_716 hb (vp_in_nI (show i + 1 < ln by omega) (by omega)) ?_
  rw [nI_clamp (show i + 1 < 2 ^ 31 by omega), hxs (i + 1) (by omega)]
  refine cr_callp (r := ("BargainTree", jm_F0, 9)) (As := [_]) d_W_law_717 l_W_92 iw_B_value ew_B_value rfl nv_B_value rfl (hc.1 1 0 rfl).1 (Nat.le_of_ble_eq_true rfl) (by omega : 8 + 1 ≤ _) (k_B_value (d := 8) (n := n) (by decide) hn hs8 h8 hvp hv59 _) hc ?_
  refine jm_aload_n d_W_law_720 rfl ?_
  refine jm_aload_n d_W_law_721 rfl ?_
  refine jm_iload d_W_law_722 rfl ?_
  refine jm_iconstL (v := nI 1) d_W_law_724 (by decide) ?_
  refine jm_iadd d_W_law_725 ?_
  rw [nI_add]
  refine jm_sload d_W_law_726 hb (vp_in_nI (show i + 1 < ln by omega) (by omega)) ?_
  rw [nI_clamp (show i + 1 < 2 ^ 31 by omega), hxs (i + 1) (by omega)]
  refine mr_call (As := [_]) d_W_law_727 l_W_95 iw_M_value ew_M_value nv_M_value rfl (Nat.le_of_ble_eq_true rfl) (by omega : 11 + 1 ≤ _) (k_M_value (n := n) (by omega) hS1 h8 (inv_pt hI).2.2 _) hm mo_fr.rf (fun v9 S9 h2 hq2 hm2 hf2 => ?_)
  obtain ⟨rfl, rfl⟩ := hq2
  obtain ⟨H2, -⟩ := li_m (K := K + 1) hc hm r6 a6 ho o6 hb b6 hxs hm2 hf2 (INV_0 (y := 0) hI) ⟨hT1, by omega⟩
  refine jm_icmp_eq 836 d_W_law_730 (by decide) (fun _ => ?_) (fun ne => absurd (value_eq hI _) ne)
  exact jm_W.room (by omega) (by omega) (k h2 _ _ H2)
theorem case_total (hd : 12 ≤ d) (hE : eInj Γ) (hi : i + 6 ≤ ln) (hln : ln ≤ 3072) (hK : K < 2 ^ 29) (hrc : 104 ≤ rc) (hrs : 2544 ≤ rs) (H : LI Γ b o x m ln xs K h) (k : ∀ h' u5 u6, LI Γ b o x m ln xs (K + 1) h' → jm_W Γ m_W_law d (rc - 104) (rs - 2544) Q 836 [some (.ref b), some (.ref x), some (.ref m), some (.ref o), some (.int (nI i)), u5, u6] [] h') : jm_W Γ m_W_law d rc rs Q 735 [some (.ref b), some (.ref x), some (.ref m), some (.ref o), some (.int (nI i)), u5, u6] [] h := by
  obtain ⟨L, ρ, sz, C, ar, S, n, np, nl, T, hc, hm, hI, ⟨hT1, hTK⟩, ⟨r6, a6⟩, ⟨ho, o6⟩, hb, b6, hxs⟩ := H
  obtain ⟨hS1, h8, hS5, h12, hS34, h20, hS2, hn, hp, hn34, h60, hs8, hs6, hs20⟩ := inv_sc hI
  have hdp : C 60 0 = 0 → ∀ k, k < n → ptC sz C k := fun z => (inv_pt hI).1 ((s2_iff hI).mp z)
  refine jm_aload_n d_W_law_735 rfl ?_
  refine cr_callp (r := ("BargainTree", jm_F0, 9)) (As := []) d_W_law_736 l_W_96 iw_B_total ew_B_total rfl nv_B_total rfl (hc.1 1 0 rfl).1 (Nat.le_of_ble_eq_true rfl) (by omega : 8 + 1 ≤ _) (k_B_total (d := 8) (n := n) (by decide) hn hs8 h8 hdp (total_eq hI).2) hc ?_
  refine jm_aload_n d_W_law_739 rfl ?_
  refine mr_call (As := []) d_W_law_740 l_W_99 iw_M_total ew_M_total nv_M_total rfl (Nat.le_of_ble_eq_true rfl) (by omega : 11 + 1 ≤ _) (k_M_total (n := n) (by omega) hS1 h8 (inv_pt hI).2.2) hm mo_fr.rf (fun v9 S9 h2 hq2 hm2 hf2 => ?_)
  obtain ⟨rfl, rfl⟩ := hq2
  obtain ⟨H2, -⟩ := li_m (K := K + 1) hc hm r6 a6 ho o6 hb b6 hxs hm2 hf2 (INV_0 (y := 0) hI) ⟨hT1, by omega⟩
  refine jm_icmp_eq 836 d_W_law_743 (by decide) (fun _ => ?_) (fun ne => absurd ((total_eq hI).1) ne)
  exact jm_W.room (by omega) (by omega) (k h2 _ _ H2)
theorem case_parent (hd : 12 ≤ d) (hE : eInj Γ) (hi : i + 6 ≤ ln) (hln : ln ≤ 3072) (hK : K < 2 ^ 29) (hrc : 104 ≤ rc) (hrs : 2544 ≤ rs) (H : LI Γ b o x m ln xs K h) (k : ∀ h' u5 u6, LI Γ b o x m ln xs (K + 1) h' → jm_W Γ m_W_law d (rc - 104) (rs - 2544) Q 836 [some (.ref b), some (.ref x), some (.ref m), some (.ref o), some (.int (nI i)), u5, u6] [] h') : jm_W Γ m_W_law d rc rs Q 748 [some (.ref b), some (.ref x), some (.ref m), some (.ref o), some (.int (nI i)), u5, u6] [] h := by
  obtain ⟨L, ρ, sz, C, ar, S, n, np, nl, T, hc, hm, hI, ⟨hT1, hTK⟩, ⟨r6, a6⟩, ⟨ho, o6⟩, hb, b6, hxs⟩ := H
  obtain ⟨hS1, h8, hS5, h12, hS34, h20, hS2, hn, hp, hn34, h60, hs8, hs6, hs20⟩ := inv_sc hI
  refine jm_aload_n d_W_law_748 rfl ?_
  refine jm_aload_n d_W_law_749 rfl ?_
  refine jm_iload d_W_law_750 rfl ?_
  refine jm_iconstL (v := nI 1) d_W_law_752 (by decide) ?_
  refine jm_iadd d_W_law_753 ?_
  rw [nI_add]
  refine jm_sload d_W_law_754 hb (vp_in_nI (show i + 1 < ln by omega) (by omega)) ?_
  rw [nI_clamp (show i + 1 < 2 ^ 31 by omega), hxs (i + 1) (by omega)]
  refine cr_callp (r := ("BargainTree", jm_F0, 9)) (As := [_]) d_W_law_755 l_W_100 iw_B_parent ew_B_parent rfl nv_B_parent rfl (hc.1 1 0 rfl).1 (Nat.le_of_ble_eq_true rfl) (by omega : 8 + 1 ≤ _) (k_B_parent (d := 8) (n := n) (by decide) hn hs8 h8 _) hc ?_
  refine jm_aload_n d_W_law_758 rfl ?_
  refine jm_aload_n d_W_law_759 rfl ?_
  refine jm_iload d_W_law_760 rfl ?_
  refine jm_iconstL (v := nI 1) d_W_law_762 (by decide) ?_
  refine jm_iadd d_W_law_763 ?_
  rw [nI_add]
  refine jm_sload d_W_law_764 hb (vp_in_nI (show i + 1 < ln by omega) (by omega)) ?_
  rw [nI_clamp (show i + 1 < 2 ^ 31 by omega), hxs (i + 1) (by omega)]
  refine mr_call (As := [_]) d_W_law_765 l_W_103 iw_M_parent ew_M_parent nv_M_parent rfl (Nat.le_of_ble_eq_true rfl) (by omega : 11 + 1 ≤ _) (k_M_parent (n := n) (by omega) hS1 h8 _) hm mo_fr.rf (fun v9 S9 h2 hq2 hm2 hf2 => ?_)
  obtain ⟨rfl, rfl⟩ := hq2
  obtain ⟨H2, -⟩ := li_m (K := K + 1) hc hm r6 a6 ho o6 hb b6 hxs hm2 hf2 (INV_0 (y := 0) hI) ⟨hT1, by omega⟩
  refine jm_icmp_eq 836 d_W_law_768 (by decide) (fun _ => ?_) (fun ne => absurd (parent_eq hI _) ne)
  exact jm_W.room (by omega) (by omega) (k h2 _ _ H2)
theorem case_separator (hd : 12 ≤ d) (hE : eInj Γ) (hi : i + 6 ≤ ln) (hln : ln ≤ 3072) (hK : K < 2 ^ 29) (hrc : 104 ≤ rc) (hrs : 2544 ≤ rs) (H : LI Γ b o x m ln xs K h) (k : ∀ h' u5 u6, LI Γ b o x m ln xs (K + 1) h' → jm_W Γ m_W_law d (rc - 104) (rs - 2544) Q 836 [some (.ref b), some (.ref x), some (.ref m), some (.ref o), some (.int (nI i)), u5, u6] [] h') : jm_W Γ m_W_law d rc rs Q 773 [some (.ref b), some (.ref x), some (.ref m), some (.ref o), some (.int (nI i)), u5, u6] [] h := by
  obtain ⟨L, ρ, sz, C, ar, S, n, np, nl, T, hc, hm, hI, ⟨hT1, hTK⟩, ⟨r6, a6⟩, ⟨ho, o6⟩, hb, b6, hxs⟩ := H
  obtain ⟨hS1, h8, hS5, h12, hS34, h20, hS2, hn, hp, hn34, h60, hs8, hs6, hs20⟩ := inv_sc hI
  have hst : ∀ k, k < n → ∃ s, s < 3 ∧ C 50 k = nI s := fun k hk => (stg_ix hI.2.1 h8 hk).1
  refine jm_aload_n d_W_law_773 rfl ?_
  refine jm_aload_n d_W_law_774 rfl ?_
  refine jm_iload d_W_law_775 rfl ?_
  refine jm_iconstL (v := nI 1) d_W_law_777 (by decide) ?_
  refine jm_iadd d_W_law_778 ?_
  rw [nI_add]
  refine jm_sload d_W_law_779 hb (vp_in_nI (show i + 1 < ln by omega) (by omega)) ?_
  rw [nI_clamp (show i + 1 < 2 ^ 31 by omega), hxs (i + 1) (by omega)]
  refine cr_callp (r := ("BargainTree", jm_F0, 9)) (As := [_]) d_W_law_780 l_W_104 iw_B_separator ew_B_separator rfl nv_B_separator rfl (hc.1 1 0 rfl).1 (Nat.le_of_ble_eq_true rfl) (by omega : 8 + 1 ≤ _) (k_B_separator (d := 8) (n := n) (by decide) hn hs8 h8 hE hst _) hc ?_
  refine jm_aload_n d_W_law_783 rfl ?_
  refine jm_aload_n d_W_law_784 rfl ?_
  refine jm_iload d_W_law_785 rfl ?_
  refine jm_iconstL (v := nI 1) d_W_law_787 (by decide) ?_
  refine jm_iadd d_W_law_788 ?_
  rw [nI_add]
  refine jm_sload d_W_law_789 hb (vp_in_nI (show i + 1 < ln by omega) (by omega)) ?_
  rw [nI_clamp (show i + 1 < 2 ^ 31 by omega), hxs (i + 1) (by omega)]
  refine mr_call (As := [_]) d_W_law_790 l_W_107 iw_M_separator ew_M_separator nv_M_separator rfl (Nat.le_of_ble_eq_true rfl) (by omega : 11 + 1 ≤ _) (k_M_separator (n := n) (by omega) hS1 h8 _) hm mo_fr.rf (fun v9 S9 h2 hq2 hm2 hf2 => ?_)
  obtain ⟨rfl, rfl⟩ := hq2
  obtain ⟨H2, -⟩ := li_m (K := K + 1) hc hm r6 a6 ho o6 hb b6 hxs hm2 hf2 (INV_0 (y := 0) hI) ⟨hT1, by omega⟩
  refine jm_icmp_eq 836 d_W_law_793 (by decide) (fun _ => ?_) (fun ne => absurd (separator_eq hI _) ne)
  exact jm_W.room (by omega) (by omega) (k h2 _ _ H2)
theorem case_entries (hd : 12 ≤ d) (hE : eInj Γ) (hi : i + 6 ≤ ln) (hln : ln ≤ 3072) (hK : K < 2 ^ 29) (hrc : 104 ≤ rc) (hrs : 2544 ≤ rs) (H : LI Γ b o x m ln xs K h) (k : ∀ h' u5 u6, LI Γ b o x m ln xs (K + 1) h' → jm_W Γ m_W_law d (rc - 104) (rs - 2544) Q 836 [some (.ref b), some (.ref x), some (.ref m), some (.ref o), some (.int (nI i)), u5, u6] [] h') : jm_W Γ m_W_law d rc rs Q 798 [some (.ref b), some (.ref x), some (.ref m), some (.ref o), some (.int (nI i)), u5, u6] [] h := by
  obtain ⟨L, ρ, sz, C, ar, S, n, np, nl, T, hc, hm, hI, ⟨hT1, hTK⟩, ⟨r6, a6⟩, ⟨ho, o6⟩, hb, b6, hxs⟩ := H
  obtain ⟨hS1, h8, hS5, h12, hS34, h20, hS2, hn, hp, hn34, h60, hs8, hs6, hs20⟩ := inv_sc hI
  refine jm_aload_n d_W_law_798 rfl ?_
  refine jm_aload_n d_W_law_799 rfl ?_
  refine jm_iload d_W_law_800 rfl ?_
  refine jm_iconstL (v := nI 1) d_W_law_802 (by decide) ?_
  refine jm_iadd d_W_law_803 ?_
  rw [nI_add]
  refine jm_sload d_W_law_804 hb (vp_in_nI (show i + 1 < ln by omega) (by omega)) ?_
  rw [nI_clamp (show i + 1 < 2 ^ 31 by omega), hxs (i + 1) (by omega)]
  refine cr_callp (r := ("BargainTree", jm_F0, 9)) (As := [_]) d_W_law_805 l_W_108 iw_B_entries ew_B_entries rfl nv_B_entries rfl (hc.1 1 0 rfl).1 (Nat.le_of_ble_eq_true rfl) (by omega : 8 + 1 ≤ _) (k_B_entries (d := 8) (n := n) (by decide) hn hs8 h8 _) hc ?_
  refine jm_aload_n d_W_law_808 rfl ?_
  refine jm_aload_n d_W_law_809 rfl ?_
  refine jm_iload d_W_law_810 rfl ?_
  refine jm_iconstL (v := nI 1) d_W_law_812 (by decide) ?_
  refine jm_iadd d_W_law_813 ?_
  rw [nI_add]
  refine jm_sload d_W_law_814 hb (vp_in_nI (show i + 1 < ln by omega) (by omega)) ?_
  rw [nI_clamp (show i + 1 < 2 ^ 31 by omega), hxs (i + 1) (by omega)]
  refine mr_call (As := [_]) d_W_law_815 l_W_111 iw_M_entries ew_M_entries nv_M_entries rfl (Nat.le_of_ble_eq_true rfl) (by omega : 11 + 1 ≤ _) (k_M_entries (n := n) (by omega) hS1 h8 _) hm mo_fr.rf (fun v9 S9 h2 hq2 hm2 hf2 => ?_)
  obtain ⟨rfl, rfl⟩ := hq2
  obtain ⟨H2, -⟩ := li_m (K := K + 1) hc hm r6 a6 ho o6 hb b6 hxs hm2 hf2 (INV_0 (y := 0) hI) ⟨hT1, by omega⟩
  refine jm_icmp_eq 836 d_W_law_818 (by decide) (fun _ => ?_) (fun ne => absurd (entries_eq hI _) ne)
  exact jm_W.room (by omega) (by omega) (k h2 _ _ H2)
theorem case_tables (hd : 12 ≤ d) (hE : eInj Γ) (hi : i + 6 ≤ ln) (hln : ln ≤ 3072) (hK : K < 2 ^ 29) (hrc : 104 ≤ rc) (hrs : 2544 ≤ rs) (H : LI Γ b o x m ln xs K h) (k : ∀ h' u5 u6, LI Γ b o x m ln xs (K + 1) h' → jm_W Γ m_W_law d (rc - 104) (rs - 2544) Q 836 [some (.ref b), some (.ref x), some (.ref m), some (.ref o), some (.int (nI i)), u5, u6] [] h') : jm_W Γ m_W_law d rc rs Q 823 [some (.ref b), some (.ref x), some (.ref m), some (.ref o), some (.int (nI i)), u5, u6] [] h := by
  obtain ⟨L, ρ, sz, C, ar, S, n, np, nl, T, hc, hm, hI, ⟨hT1, hTK⟩, ⟨r6, a6⟩, ⟨ho, o6⟩, hb, b6, hxs⟩ := H
  obtain ⟨hS1, h8, hS5, h12, hS34, h20, hS2, hn, hp, hn34, h60, hs8, hs6, hs20⟩ := inv_sc hI
  refine jm_aload_n d_W_law_823 rfl ?_
  refine cr_callp (r := ("BargainTree", jm_F0, 9)) (As := []) d_W_law_824 l_W_112 iw_B_tables ew_B_tables rfl nv_B_tables rfl (hc.1 1 0 rfl).1 (Nat.le_of_ble_eq_true rfl) (by omega : 8 + 1 ≤ _) (k_B_tables (d := 8)) hc ?_
  refine jm_aload_n d_W_law_827 rfl ?_
  refine mr_call (As := []) d_W_law_828 l_W_115 iw_M_tables ew_M_tables nv_M_tables rfl (Nat.le_of_ble_eq_true rfl) (by omega : 11 + 1 ≤ _) k_M_tables hm mo_fr.rf (fun v9 S9 h2 hq2 hm2 hf2 => ?_)
  obtain ⟨rfl, rfl⟩ := hq2
  obtain ⟨H2, -⟩ := li_m (K := K + 1) hc hm r6 a6 ho o6 hb b6 hxs hm2 hf2 (INV_0 (y := 0) hI) ⟨hT1, by omega⟩
  refine jm_icmp_eq 836 d_W_law_831 (by decide) (fun _ => ?_) (fun ne => absurd (hI.2.1.1.2.2.2.2.1) ne)
  exact jm_W.room (by omega) (by omega) (k h2 _ _ H2)
end
