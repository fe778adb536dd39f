/-! THE REFERENCE: a table is made. Written by wip/whole/gen/p33.py -/
section
variable {Γ : jm_G} {d m : Nat} {ar : Nat → Nat} {S : mS} {h : jm_H}
def nwB (Z : Nat → Int32) (x : Int32) (i a y b : Nat) : Nat → Nat := fun q => if q = a then y else if q < b then dgR Z x (i + 1) q else dgR Z x i q
theorem rs_c {j k : Nat} {f g : Nat → Int32} (h : ∀ q, q < k → f q = g q) : rsR S j k f = rsR S j k g := by
  funext a b
  simp only [rsR]
  by_cases e : a = j ∧ b < k
  · rw [if_pos e, if_pos e, h b e.2]
  · rw [if_neg e, if_neg e]
theorem lp_M_mkin {rc rs a i y : Nat} {B : mS} {Z : Nat → Int32} {x : Int32} {h0 : jm_H} {Q : jm_O → jm_H → Prop} {w1 w2 w3 w4 : Option Value} (hd : 1 ≤ d) (ha : a < 8) (hB : B 22 a = x) (hB3 : B 3 = Z) (hZ : ∀ b, b < 8 → Z b = nI (Z b).toNatClampNeg ∧ (Z b).toNatClampNeg ≤ 4) (hs : ∀ b, b < 8 → cI x (nI b) → 0 < (Z b).toNatClampNeg) (hxa : ¬ cI x (nI a))
    (hQ : ∀ h, mo h m ar (rsR B 32 8 (fun q => nI (nwB Z x i a y 8 q))) → mo_fr m ar h0 h → ∀ x5 x6, jm_W Γ m_M_make d rc rs Q 190 [some (.ref m), some (.int (nI a)), w2, w3, w4, x5, x6] [] h) :
    ∀ j b, b + j = 8 → ∀ c5 : Int32, (c5 = if (i + 1) % unR Z x b = 0 then 1 else 0) → ∀ h, mo h m ar (rsR B 32 8 (fun q => nI (nwB Z x i a y b q))) → mo_fr m ar h0 h → jm_W Γ m_M_make d rc rs Q 102 [some (.ref m), some (.int (nI a)), w2, w3, w4, some (.int c5), some (.int (nI b))] [] h := by
  intro j
  induction j with
  | zero =>
    intro b hb c5 hc h hm hf
    have hb' : b = 8 := by omega
    subst hb'
    refine jm_iload d_M_make_102 rfl ?_
    refine jm_bipushL (v := 8) d_M_make_104 (by decide) ?_
    refine jm_icmp_ge 190 d_M_make_106 (by decide) (fun hb106 => ?_) (fun hb106 => ?_)
    · exact hQ h hm hf _ _
    · exact absurd (by decide) hb106
  | succ j ih =>
    intro b hb c5 hc h hm hf
    have hb8 : b < 8 := by omega
    have hu := unR_pos (z := Z) (x := x) b (fun b' hb' => hs b' (by omega))
    have e22 : rsR B 32 8 (fun q => nI (nwB Z x i a y b q)) 22 a = x := hB
    have e3 : rsR B 32 8 (fun q => nI (nwB Z x i a y b q)) 3 b = nI (Z b).toNatClampNeg := (congrFun hB3 b).trans (hZ b hb8).1
    have hz4 := (hZ b hb8).2
    have hself : ¬ cI x (nI b) ∨ ((i + 1) % unR Z x b ≠ 0) → nwB Z x i a y (b + 1) = nwB Z x i a y b := by
      intro hor
      funext q
      simp only [nwB]
      by_cases e1 : q = a
      · rw [if_pos e1, if_pos e1]
      · rw [if_neg e1, if_neg e1]
        by_cases e2 : q < b
        · rw [if_pos e2, if_pos (by omega)]
        · rw [if_neg e2]
          by_cases e3 : q < b + 1
          · rw [if_pos e3]
            have : q = b := by omega
            subst this
            simp only [dgR]
            by_cases ec : cI x (nI q)
            · rw [if_pos ec, if_pos ec]
              rcases hor with z | z
              · exact absurd ec z
              · rw [(dg_nc hu 1 z).1]
            · rw [if_neg ec, if_neg ec]
          · rw [if_neg e3]
    have K1 : ¬ cI x (nI b) ∨ ((i + 1) % unR Z x b ≠ 0) → (c5 = if (i + 1) % unR Z x (b + 1) = 0 then 1 else 0) := by
      intro hor
      rw [hc]
      by_cases ec : cI x (nI b)
      · rw [show unR Z x (b + 1) = unR Z x b * (Z b).toNatClampNeg from if_pos ec]
        rcases hor with z | z
        · exact absurd ec z
        · rw [if_neg z, if_neg (dg_nc hu _ z).2]
      · rw [show unR Z x (b + 1) = unR Z x b from if_neg ec]
    refine jm_iload d_M_make_102 rfl ?_
    refine jm_bipushL (v := 8) d_M_make_104 (by decide) ?_
    refine jm_icmp_ge 190 d_M_make_106 (by decide) (fun hb106 => ?_) (fun hb106 => ?_)
    · exact absurd hb106 (nI_ge (b := 8) (by omega) (by decide))
    · refine jm_iload d_M_make_109 rfl ?_
      first | refine jm_bz_eq 184 d_M_make_111 (by decide) (fun hb111 => ?_) (fun hb111 => ?_) | refine jm_if_eq 184 d_M_make_111 (by decide) (fun hb111 => ?_) (fun hb111 => ?_)
      · refine jm_iincL (v := nI (b + 1)) d_M_make_184 rfl (by rw [nI_succ]; rfl) ?_
        refine jm_goto 102 d_M_make_187 (by decide) ?_
        have hor : ¬ cI x (nI b) ∨ ((i + 1) % unR Z x b ≠ 0) := Or.inr (fun q => by rw [hc, if_pos q] at hb111; exact absurd hb111 (by decide))
        refine ih (b + 1) (by omega) c5 (K1 hor) h ?_ hf
        rw [hself hor]
        exact hm
      · first | refine jm_aload_n d_M_make_114 rfl ?_ | refine jm_aload_nN d_M_make_114 rfl ?_
        refine mr_geta d_M_make_115 f_M_65 hm (by decide) (by decide) ?_
        refine jm_iload_n d_M_make_118 rfl ?_
        refine mr_ldN _ d_M_make_119 hm (by decide) (by decide) rfl rfl (by simp only [mo_len]; omega) ?_
        rw [e22]
        refine jm_iload d_M_make_120 rfl ?_
        refine jm_callSp (As := [_, _]) d_M_make_122 l_M_120 sw_M_has nv_M_has rfl (Nat.le_of_ble_eq_true rfl) (by omega : 0 + 1 ≤ _) (k_M_has _ _) ?_
        first | refine jm_bz_eq 184 d_M_make_125 (by decide) (fun hb125 => ?_) (fun hb125 => ?_) | refine jm_if_eq 184 d_M_make_125 (by decide) (fun hb125 => ?_) (fun hb125 => ?_)
        · refine jm_iincL (v := nI (b + 1)) d_M_make_184 rfl (by rw [nI_succ]; rfl) ?_
          refine jm_goto 102 d_M_make_187 (by decide) ?_
          have hor : ¬ cI x (nI b) ∨ ((i + 1) % unR Z x b ≠ 0) := Or.inl hb125
          refine ih (b + 1) (by omega) c5 (K1 hor) h ?_ hf
          rw [hself hor]
          exact hm
        · have ec : cI x (nI b) := hb125
          have hba : b ≠ a := fun q => hxa (q ▸ ec)
          have hcy : (i + 1) % unR Z x b = 0 := Decidable.byContradiction (fun q => hb111 (by rw [hc, if_neg q]))
          have hsz := hs b hb8 ec
          have hL := dg_cy hu hsz hcy
          have enw : nwB Z x i a y b b = (i / unR Z x b) % (Z b).toNatClampNeg := by simp only [nwB, dgR]; rw [if_neg hba, if_neg (by omega), if_pos ec]
          have edg : dgR Z x (i + 1) b = ((i + 1) / unR Z x b) % (Z b).toNatClampNeg := if_pos ec
          have hlt := Nat.mod_lt (i / unR Z x b) hsz
          have e32 : rsR B 32 8 (fun q => nI (nwB Z x i a y b q)) 32 b = nI ((i / unR Z x b) % (Z b).toNatClampNeg) := by rw [← enw]; simp [rsR, hb8]
          have hu1 : unR Z x (b + 1) = unR Z x b * (Z b).toNatClampNeg := if_pos ec
          have hst : ∀ v, v = dgR Z x (i + 1) b → mu (rsR B 32 8 (fun q => nI (nwB Z x i a y b q))) 32 b (nI v) = rsR B 32 8 (fun q => nI (nwB Z x i a y (b + 1) q)) := by
            intro v hv
            refine rs_u hb8 ?_ ?_
            · simp only [nwB]
              rw [if_neg hba, if_pos (by omega), hv]
            · intro q hq
              simp only [nwB]
              by_cases e1 : q = a
              · rw [if_pos e1, if_pos e1]
              · rw [if_neg e1, if_neg e1]
                by_cases e2 : q < b
                · rw [if_pos e2, if_pos (by omega)]
                · rw [if_neg e2, if_neg (by omega)]
          first | refine jm_aload_n d_M_make_128 rfl ?_ | refine jm_aload_nN d_M_make_128 rfl ?_
          refine mr_geta d_M_make_129 f_M_92 hm (by decide) (by decide) ?_
          refine jm_iload d_M_make_132 rfl ?_
          first | refine jm_aload_n d_M_make_134 rfl ?_ | refine jm_aload_nN d_M_make_134 rfl ?_
          refine mr_geta d_M_make_135 f_M_92 hm (by decide) (by decide) ?_
          refine jm_iload d_M_make_138 rfl ?_
          refine mr_ldN _ d_M_make_140 hm (by decide) (by decide) rfl rfl (by simp only [mo_len]; omega) ?_
          rw [e32]
          refine jm_iconstL (v := 1) d_M_make_141 (by decide) ?_
          refine jm_iadd d_M_make_142 ?_
          rw [nI_1]
          first | refine jm_aload_n d_M_make_143 rfl ?_ | refine jm_aload_nN d_M_make_143 rfl ?_
          refine mr_geta d_M_make_144 f_M_7 hm (by decide) (by decide) ?_
          refine jm_iload d_M_make_147 rfl ?_
          refine mr_ldN _ d_M_make_149 hm (by decide) (by decide) rfl rfl (by simp only [mo_len]; omega) ?_
          rw [e3]
          refine jm_icmp_ne 157 d_M_make_150 (by decide) (fun hb150 => ?_) (fun hb150 => ?_)
          · have hz150 : (i / unR Z x b) % (Z b).toNatClampNeg + 1 ≠ (Z b).toNatClampNeg := fun q => hb150 (by rw [q])
            have hv1 : dgR Z x (i + 1) b = (i / unR Z x b) % (Z b).toNatClampNeg + 1 := by rw [edg, (hL.2 hz150).1]
            have hcz : (0 : Int32) = if (i + 1) % unR Z x (b + 1) = 0 then 1 else 0 := by rw [hu1, if_neg (hL.2 hz150).2]
            first | refine jm_aload_n d_M_make_157 rfl ?_ | refine jm_aload_nN d_M_make_157 rfl ?_
            refine mr_geta d_M_make_158 f_M_92 hm (by decide) (by decide) ?_
            refine jm_iload d_M_make_161 rfl ?_
            refine mr_ldN _ d_M_make_163 hm (by decide) (by decide) rfl rfl (by simp only [mo_len]; omega) ?_
            rw [e32]
            refine jm_iconstL (v := 1) d_M_make_164 (by decide) ?_
            refine jm_iadd d_M_make_165 ?_
            rw [nI_1]
            refine mr_stN _ d_M_make_166 hm hf (by decide) (by decide) rfl rfl (by simp only [mo_len]; omega) (fun h hm hf => ?_)
            rw [← hv1, hst _ rfl] at hm
            have e32' : rsR B 32 8 (fun q => nI (nwB Z x i a y (b + 1) q)) 32 b = nI ((i / unR Z x b) % (Z b).toNatClampNeg + 1) := by rw [← hv1]; simp [rsR, hb8, nwB, hba]
            first | refine jm_aload_n d_M_make_167 rfl ?_ | refine jm_aload_nN d_M_make_167 rfl ?_
            refine mr_geta d_M_make_168 f_M_92 hm (by decide) (by decide) ?_
            refine jm_iload d_M_make_171 rfl ?_
            refine mr_ldN _ d_M_make_173 hm (by decide) (by decide) rfl rfl (by simp only [mo_len]; omega) ?_
            rw [e32']
            first | refine jm_bz_ne 181 d_M_make_174 (by decide) (fun hb174 => ?_) (fun hb174 => ?_) | refine jm_if_ne 181 d_M_make_174 (by decide) (fun hb174 => ?_) (fun hb174 => ?_)
            · refine jm_iconstL (v := 0) d_M_make_181 (by decide) ?_
              refine jm_istore d_M_make_182 (Nat.le_of_ble_eq_true rfl) ?_
              refine jm_iincL (v := nI (b + 1)) d_M_make_184 rfl (by rw [nI_succ]; rfl) ?_
              refine jm_goto 102 d_M_make_187 (by decide) ?_
              exact ih (b + 1) (by omega) _ hcz h hm hf
            · exact absurd (fun q => nI_ne0 (by omega) (by omega) q) hb174
          · have hz150 : (i / unR Z x b) % (Z b).toNatClampNeg + 1 = (Z b).toNatClampNeg := Decidable.byContradiction (fun q => hb150 (fun z => q ((nI_eq (by omega) (by omega)).mp z)))
            have hv0 : dgR Z x (i + 1) b = 0 := by rw [edg, (hL.1 hz150).1]
            have hcz : (1 : Int32) = if (i + 1) % unR Z x (b + 1) = 0 then 1 else 0 := by rw [hu1, if_pos (hL.1 hz150).2]
            refine jm_iconstL (v := nI 0) d_M_make_153 (by decide) ?_
            refine jm_goto 166 d_M_make_154 (by decide) ?_
            refine mr_stN _ d_M_make_166 hm hf (by decide) (by decide) rfl rfl (by simp only [mo_len]; omega) (fun h hm hf => ?_)
            rw [show (nI 0 : Int32) = nI (dgR Z x (i + 1) b) by rw [hv0], hst _ rfl] at hm
            have e32' : rsR B 32 8 (fun q => nI (nwB Z x i a y (b + 1) q)) 32 b = nI 0 := by rw [← hv0]; simp [rsR, hb8, nwB, hba]
            first | refine jm_aload_n d_M_make_167 rfl ?_ | refine jm_aload_nN d_M_make_167 rfl ?_
            refine mr_geta d_M_make_168 f_M_92 hm (by decide) (by decide) ?_
            refine jm_iload d_M_make_171 rfl ?_
            refine mr_ldN _ d_M_make_173 hm (by decide) (by decide) rfl rfl (by simp only [mo_len]; omega) ?_
            rw [e32']
            first | refine jm_bz_ne 181 d_M_make_174 (by decide) (fun hb174 => ?_) (fun hb174 => ?_) | refine jm_if_ne 181 d_M_make_174 (by decide) (fun hb174 => ?_) (fun hb174 => ?_)
            · exact absurd rfl hb174
            · refine jm_iconstL (v := 1) d_M_make_177 (by decide) ?_
              refine jm_goto 182 d_M_make_178 (by decide) ?_
              refine jm_istore d_M_make_182 (Nat.le_of_ble_eq_true rfl) ?_
              refine jm_iincL (v := nI (b + 1)) d_M_make_184 rfl (by rw [nI_succ]; rfl) ?_
              refine jm_goto 102 d_M_make_187 (by decide) ?_
              exact ih (b + 1) (by omega) _ hcz h hm hf
end
