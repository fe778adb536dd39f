/-! THE REFERENCE: the cost now, and the best value. Written by wip/whole/gen/p31.py -/
section
variable {Γ : jm_G} {d m : Nat} {ar : Nat → Nat} {S : mS} {h : jm_H}
/-- pair p joins a upwards -/
abbrev upN (S : mS) (a p : Nat) : Prop := (S 6 p = nI a ∧ cI (S 17 a) (S 7 p)) ∨ (S 7 p = nI a ∧ cI (S 17 a) (S 6 p))
def s1R (o f g c an : Nat → Int32) (nv : Nat → Nat) (a : Nat) : Nat → Nat
  | 0 => (o (4 * a + nv a)).toNatClampNeg
  | p + 1 => if (f p = nI a ∧ cI (an a) (g p)) ∨ (g p = nI a ∧ cI (an a) (f p)) then s1R o f g c an nv a p + (c (16 * p + 4 * nv (f p).toNatClampNeg + nv (g p).toNatClampNeg)).toNatClampNeg else s1R o f g c an nv a p
abbrev s1N (S : mS) : (Nat → Nat) → Nat → Nat → Nat := s1R (S 4) (S 6) (S 7) (S 8) (S 17)
def s2R (s : Nat) (ch ms ce z : Nat → Int32) (nv : Nat → Nat) (a : Nat) : Nat → Nat
  | 0 => s
  | k + 1 => s2R s ch ms ce z nv a k + (ce (256 * (8 + (ch (8 * a + k)).toNatClampNeg) + plR z (ms (8 + (ch (8 * a + k)).toNatClampNeg)) nv 8)).toNatClampNeg
abbrev s2N (S : mS) (nv : Nat → Nat) (a np : Nat) : Nat → Nat := s2R (s1N S nv a np) (S 20) (S 24) (S 26) (S 3) nv a
/-- the cost of a's value and of what hangs at it, at the values nv -/
abbrev costN (S : mS) (nv : Nat → Nat) (a np cc : Nat) : Nat := if s2N S nv a np cc ≤ 1048576 then s2N S nv a np cc else 1048576
/-- the numbers that a cost is made of lie in their bounds -/
def cwf (S : mS) (n a np cc : Nat) : Prop :=
  (∀ b, b < 8 → nn S 3 b 4) ∧ S 5 0 = nI np ∧ np ≤ 12 ∧ (∀ p, p < np → nn S 6 p 7 ∧ nn S 7 p 7) ∧ S 21 a = nI cc ∧ cc ≤ 8 ∧
  (∀ k, k < cc → nn S 20 (8 * a + k) 7 ∧ unN S (S 24 (8 + N S 20 (8 * a + k))) 8 ≤ 256 ∧ ∀ b, b < 8 → cI (S 24 (8 + N S 20 (8 * a + k))) (nI b) → b < n) ∧ (∀ i, i < 32 → nn S 4 i 1048576) ∧ (∀ i, i < 192 → nn S 8 i 1048576) ∧ ∀ i, i < 4096 → nn S 26 i 1048576
/-- so do the values -/
def nvok (S : mS) (n : Nat) (nv : Nat → Nat) : Prop := ∀ b, b < 8 → nv b < 4 ∧ (b < n → nv b < N S 3 b)
theorem cwf_pl {n a np cc : Nat} {nv : Nat → Nat} (hw : cwf S n a np cc) (hv : nvok S n nv) {k : Nat} (hk : k < cc) : plN S (S 24 (8 + N S 20 (8 * a + k))) nv 8 < 256 := by
  obtain ⟨-, h2, h3⟩ := hw.2.2.2.2.2.2.1 k hk
  exact Nat.lt_of_lt_of_le (plR_lt 8 (fun b hb hc => (hv b hb).2 (h3 b hb hc))) h2
theorem s1N_le {nv : Nat → Nat} {n a np cc : Nat} (ha : a < 8) (hw : cwf S n a np cc) (hv : nvok S n nv) : ∀ p, p ≤ np → s1N S nv a p ≤ 1048576 * (p + 1) := by
  have wpl := fun k (hk : k < cc) => cwf_pl hw hv hk
  obtain ⟨w3, w5, w12, w6, w21, w8, w20, w4, w8c, w26⟩ := hw
  intro p
  induction p with
  | zero =>
    intro _
    have := (w4 (4 * a + nv a) (by have := (hv a ha).1; omega)).2
    show N S 4 (4 * a + nv a) ≤ _
    omega
  | succ p ih =>
    intro hp
    have h1 := ih (by omega)
    have h6 := (w6 p (by omega)).1.2
    have h7 := (w6 p (by omega)).2.2
    have := (w8c (16 * p + 4 * nv (N S 6 p) + nv (N S 7 p)) (by have := (hv _ (by omega : N S 6 p < 8)).1; have := (hv _ (by omega : N S 7 p < 8)).1; omega)).2
    show (if upN S a p then s1N S nv a p + N S 8 (16 * p + 4 * nv (N S 6 p) + nv (N S 7 p)) else s1N S nv a p) ≤ _
    split <;> omega
theorem s2N_le {nv : Nat → Nat} {n a np cc : Nat} (ha : a < 8) (hw : cwf S n a np cc) (hv : nvok S n nv) : ∀ k, k ≤ cc → s2N S nv a np k ≤ 1048576 * (np + 1 + k) := by
  have h0 := s1N_le ha hw hv np (by omega)
  have wpl := fun k (hk : k < cc) => cwf_pl hw hv hk
  obtain ⟨w3, w5, w12, w6, w21, w8, w20, w4, w8c, w26⟩ := hw
  intro k
  induction k with
  | zero => intro _; exact h0
  | succ k ih =>
    intro hk
    have h1 := ih (by omega)
    obtain ⟨⟨h2, h3⟩, -, -⟩ := w20 k (by omega)
    have h4 := wpl k (by omega)
    have h5 := (w26 (256 * (8 + N S 20 (8 * a + k)) + plN S (S 24 (8 + N S 20 (8 * a + k))) nv 8) (by omega)).2
    show s2N S nv a np k + N S 26 (256 * (8 + N S 20 (8 * a + k)) + plN S (S 24 (8 + N S 20 (8 * a + k))) nv 8) ≤ _
    omega
theorem lp_M_cost2 {rc rs n a np cc : Nat} {nv : Nat → Nat} (hd : 2 ≤ d) (ha : a < 8) (hw : cwf S n a np cc) (hv : nvok S n nv) (h32 : ∀ b, b < 8 → S 32 b = nI (nv b)) (hm : mo h m ar S) : ∀ j k, k + j = cc → ∀ x4, jm_W Γ m_M_costNow d rc rs (fun oc h' => h' = h ∧ oc = .inl (some (.int (nI (costN S nv a np cc))))) 144 [some (.ref m), some (.int (nI a)), some (.int (nI (s2N S nv a np k))), some (.int (nI k)), x4] [] h := by
  have hle := s2N_le ha hw hv
  have wpl := fun k (hk : k < cc) => cwf_pl hw hv hk
  obtain ⟨w3, w5, w12, w6, w21, w8, w20, w4, w8c, w26⟩ := hw
  intro j
  induction j with
  | zero =>
    intro k hk x4
    have hk' : k = cc := by omega
    subst hk'
    have hle' := hle k (by omega)
    have hlt : s2N S nv a np k < 2 ^ 31 := by omega
    refine jm_iload_n d_M_costNow_144 rfl ?_
    first | refine jm_aload_n d_M_costNow_145 rfl ?_ | refine jm_aload_nN d_M_costNow_145 rfl ?_
    refine mr_geta d_M_costNow_146 f_M_62 hm (by decide) (by decide) ?_
    refine jm_iload_n d_M_costNow_149 rfl ?_
    refine mr_ldN _ d_M_costNow_150 hm (by decide) (by decide) rfl rfl (by simp only [mo_len]; omega) ?_
    rw [w21]
    refine jm_icmp_ge 197 d_M_costNow_151 (by decide) (fun hb151 => ?_) (fun hb151 => ?_)
    · refine jm_iload_n d_M_costNow_197 rfl ?_
      refine jm_ldc d_M_costNow_198 k_M_145 ?_
      refine jm_icmp_le 208 d_M_costNow_200 (by decide) (fun hb200 => ?_) (fun hb200 => ?_)
      · refine jm_iload_n d_M_costNow_208 rfl ?_
        exact jm_iret d_M_costNow_209 rfl ⟨rfl, by have hb200' := hb200; rw [show (1048576 : Int32) = nI 1048576 from rfl, nI_leI hlt (by decide)] at hb200'; first | rw [costN, if_pos hb200'] | (rw [costN, if_neg hb200']; rfl)⟩
      · refine jm_ldc d_M_costNow_203 k_M_145 ?_
        refine jm_goto 209 d_M_costNow_205 (by decide) ?_
        exact jm_iret d_M_costNow_209 rfl ⟨rfl, by have hb200' := hb200; rw [show (1048576 : Int32) = nI 1048576 from rfl, nI_leI hlt (by decide)] at hb200'; first | rw [costN, if_pos hb200'] | (rw [costN, if_neg hb200']; rfl)⟩
    · exact absurd (nI_le (by omega) (by omega)) hb151
  | succ j ih =>
    intro k hk x4
    have hkc : k < cc := by omega
    obtain ⟨⟨h2, h3⟩, -, -⟩ := w20 k hkc
    have h4 := wpl k hkc
    have e9 := ih (k + 1) (by omega)
    have et : (8 : Int32) + nI (N S 20 (8 * a + k)) = nI (8 + N S 20 (8 * a + k)) := by rw [show (8 : Int32) = nI 8 from rfl, nI_add]
    have h5 := (w26 (256 * (8 + N S 20 (8 * a + k)) + plN S (S 24 (8 + N S 20 (8 * a + k))) nv 8) (by omega)).1
    have es : s2N S nv a np (k + 1) = s2N S nv a np k + N S 26 (256 * (8 + N S 20 (8 * a + k)) + plN S (S 24 (8 + N S 20 (8 * a + k))) nv 8) := rfl
    rw [es] at e9
    rw [← nI_add, ← h5] at e9
    refine jm_iload_n d_M_costNow_144 rfl ?_
    first | refine jm_aload_n d_M_costNow_145 rfl ?_ | refine jm_aload_nN d_M_costNow_145 rfl ?_
    refine mr_geta d_M_costNow_146 f_M_62 hm (by decide) (by decide) ?_
    refine jm_iload_n d_M_costNow_149 rfl ?_
    refine mr_ldN _ d_M_costNow_150 hm (by decide) (by decide) rfl rfl (by simp only [mo_len]; omega) ?_
    rw [w21]
    refine jm_icmp_ge 197 d_M_costNow_151 (by decide) (fun hb151 => ?_) (fun hb151 => ?_)
    · exact absurd hb151 (nI_ge (by omega) (by omega))
    · refine jm_bipushL (v := 8) d_M_costNow_154 (by decide) ?_
      first | refine jm_aload_n d_M_costNow_156 rfl ?_ | refine jm_aload_nN d_M_costNow_156 rfl ?_
      refine mr_geta d_M_costNow_157 f_M_59 hm (by decide) (by decide) ?_
      refine jm_bipushL (v := 8) d_M_costNow_160 (by decide) ?_
      refine jm_iload_n d_M_costNow_162 rfl ?_
      refine jm_imul d_M_costNow_163 ?_
      refine jm_iload_n d_M_costNow_164 rfl ?_
      refine jm_iadd d_M_costNow_165 ?_
      rw [e8]
      refine mr_ldN _ d_M_costNow_166 hm (by decide) (by decide) rfl rfl (by simp only [mo_len]; omega) ?_
      rw [h2]
      refine jm_iadd d_M_costNow_167 ?_
      rw [et]
      refine jm_istore d_M_costNow_168 (Nat.le_of_ble_eq_true rfl) ?_
      refine jm_iload_n d_M_costNow_170 rfl ?_
      first | refine jm_aload_n d_M_costNow_171 rfl ?_ | refine jm_aload_nN d_M_costNow_171 rfl ?_
      refine mr_geta d_M_costNow_172 f_M_77 hm (by decide) (by decide) ?_
      refine jm_sipushL (v := 256) d_M_costNow_175 (by decide) ?_
      refine jm_iload d_M_costNow_178 rfl ?_
      refine jm_imul d_M_costNow_180 ?_
      first | refine jm_aload_n d_M_costNow_181 rfl ?_ | refine jm_aload_nN d_M_costNow_181 rfl ?_
      refine jm_iload d_M_costNow_182 rfl ?_
      refine mr_callp (As := [_]) d_M_costNow_184 l_M_190 iw_M_placeIn ew_M_placeIn nv_M_placeIn rfl (Nat.le_of_ble_eq_true rfl) (by omega : 1 + 1 ≤ _) (k_M_placeIn (nv := nv) (by omega) (by omega) w3 h32) hm ?_
      refine jm_iadd d_M_costNow_187 ?_
      rw [e256]
      refine mr_ldN _ d_M_costNow_188 hm (by decide) (by decide) rfl rfl (by simp only [mo_len]; omega) ?_
      refine jm_iadd d_M_costNow_189 ?_
      refine jm_istore_n d_M_costNow_190 (Nat.le_of_ble_eq_true rfl) ?_
      refine jm_iincL (v := nI (k + 1)) d_M_costNow_191 rfl (by rw [nI_succ]; rfl) ?_
      refine jm_goto 144 d_M_costNow_194 (by decide) ?_
      exact e9 _
theorem lp_M_cost1 {rc rs n a np cc : Nat} {nv : Nat → Nat} (hd : 2 ≤ d) (ha : a < 8) (hw : cwf S n a np cc) (hv : nvok S n nv) (h32 : ∀ b, b < 8 → S 32 b = nI (nv b)) (hm : mo h m ar S) : ∀ j p, p + j = np → ∀ x4, jm_W Γ m_M_costNow d rc rs (fun oc h' => h' = h ∧ oc = .inl (some (.int (nI (costN S nv a np cc))))) 18 [some (.ref m), some (.int (nI a)), some (.int (nI (s1N S nv a p))), some (.int (nI p)), x4] [] h := by
  intro j
  induction j with
  | zero =>
    intro p hp x4
    have hp' : p = np := by omega
    subst hp'
    have w5 := hw.2.1
    have w12 := hw.2.2.1
    refine jm_iload_n d_M_costNow_18 rfl ?_
    first | refine jm_aload_n d_M_costNow_19 rfl ?_ | refine jm_aload_nN d_M_costNow_19 rfl ?_
    refine mr_geti d_M_costNow_20 f_M_146 hm (by decide) rfl ?_
    rw [w5]
    refine jm_icmp_ge 142 d_M_costNow_23 (by decide) (fun hb23 => ?_) (fun hb23 => ?_)
    · refine jm_iconstL (v := nI 0) d_M_costNow_142 (by decide) ?_
      refine jm_istore_n d_M_costNow_143 (Nat.le_of_ble_eq_true rfl) ?_
      exact lp_M_cost2 hd ha hw hv h32 hm cc 0 (by omega) _
    · exact absurd (nI_le (by omega) (by omega)) hb23
  | succ j ih =>
    intro p hp x4
    have hpp : p < np := by omega
    have e9 := ih (p + 1) (by omega)
    have wpl := fun k (hk : k < cc) => cwf_pl hw hv hk
    obtain ⟨w3, w5, w12, w6, w21, w8, w20, w4, w8c, w26⟩ := hw
    obtain ⟨⟨h6, h6'⟩, ⟨h7, h7'⟩⟩ := w6 p hpp
    have v6 := And.intro (h32 _ (by omega : N S 6 p < 8)) (hv _ (by omega : N S 6 p < 8)).1
    have v7 := And.intro (h32 _ (by omega : N S 7 p < 8)) (hv _ (by omega : N S 7 p < 8)).1
    have e16 : (16 : Int32) * nI p + 4 * nI (nv (N S 6 p)) + nI (nv (N S 7 p)) = nI (16 * p + 4 * nv (N S 6 p) + nv (N S 7 p)) := by rw [show (16 : Int32) = nI 16 from rfl, show (4 : Int32) = nI 4 from rfl, pk_mul, pk_mul, nI_add, nI_add]
    have h8 := (w8c (16 * p + 4 * nv (N S 6 p) + nv (N S 7 p)) (by omega)).1
    have K : ∀ (u : Prop) [Decidable u], (u ↔ upN S a p) → ∀ y4, jm_W Γ m_M_costNow d rc rs (fun oc h' => h' = h ∧ oc = .inl (some (.int (nI (costN S nv a np cc))))) 87 [some (.ref m), some (.int (nI a)), some (.int (nI (s1N S nv a p))), some (.int (nI p)), y4] [.int (if u then 1 else 0)] h := by
      intro u _ hu y4
      refine jm_istore d_M_costNow_87 (Nat.le_of_ble_eq_true rfl) ?_
      refine jm_iload d_M_costNow_89 rfl ?_
      first | refine jm_bz_eq 134 d_M_costNow_91 (by decide) (fun hb91 => ?_) (fun hb91 => ?_) | refine jm_if_eq 134 d_M_costNow_91 (by decide) (fun hb91 => ?_) (fun hb91 => ?_)
      · refine jm_iload_n d_M_costNow_134 rfl ?_
        refine jm_istore_n d_M_costNow_135 (Nat.le_of_ble_eq_true rfl) ?_
        refine jm_iincL (v := nI (p + 1)) d_M_costNow_136 rfl (by rw [nI_succ]; rfl) ?_
        refine jm_goto 18 d_M_costNow_139 (by decide) ?_
        first | (rw [show s1N S nv a (p + 1) = s1N S nv a p from if_neg (fun q => hb91 (hu.mpr q))] at e9; exact e9 _) | (rw [show s1N S nv a (p + 1) = s1N S nv a p + N S 8 (16 * p + 4 * nv (N S 6 p) + nv (N S 7 p)) from if_pos (hu.mp hb91), ← nI_add, ← h8] at e9; exact e9 _)
      · refine jm_iload_n d_M_costNow_94 rfl ?_
        first | refine jm_aload_n d_M_costNow_95 rfl ?_ | refine jm_aload_nN d_M_costNow_95 rfl ?_
        refine mr_geta d_M_costNow_96 f_M_22 hm (by decide) (by decide) ?_
        refine jm_bipushL (v := 16) d_M_costNow_99 (by decide) ?_
        refine jm_iload_n d_M_costNow_101 rfl ?_
        refine jm_imul d_M_costNow_102 ?_
        refine jm_iconstL (v := 4) d_M_costNow_103 (by decide) ?_
        first | refine jm_aload_n d_M_costNow_104 rfl ?_ | refine jm_aload_nN d_M_costNow_104 rfl ?_
        refine mr_geta d_M_costNow_105 f_M_92 hm (by decide) (by decide) ?_
        first | refine jm_aload_n d_M_costNow_108 rfl ?_ | refine jm_aload_nN d_M_costNow_108 rfl ?_
        refine mr_geta d_M_costNow_109 f_M_16 hm (by decide) (by decide) ?_
        refine jm_iload_n d_M_costNow_112 rfl ?_
        refine mr_ldN _ d_M_costNow_113 hm (by decide) (by decide) rfl rfl (by simp only [mo_len]; omega) ?_
        refine mr_ldN _ d_M_costNow_114 hm (by decide) (by decide) rfl h6 (by simp only [mo_len]; omega) ?_
        rw [v6.1]
        refine jm_imul d_M_costNow_115 ?_
        refine jm_iadd d_M_costNow_116 ?_
        first | refine jm_aload_n d_M_costNow_117 rfl ?_ | refine jm_aload_nN d_M_costNow_117 rfl ?_
        refine mr_geta d_M_costNow_118 f_M_92 hm (by decide) (by decide) ?_
        first | refine jm_aload_n d_M_costNow_121 rfl ?_ | refine jm_aload_nN d_M_costNow_121 rfl ?_
        refine mr_geta d_M_costNow_122 f_M_19 hm (by decide) (by decide) ?_
        refine jm_iload_n d_M_costNow_125 rfl ?_
        refine mr_ldN _ d_M_costNow_126 hm (by decide) (by decide) rfl rfl (by simp only [mo_len]; omega) ?_
        refine mr_ldN _ d_M_costNow_127 hm (by decide) (by decide) rfl h7 (by simp only [mo_len]; omega) ?_
        rw [v7.1]
        refine jm_iadd d_M_costNow_128 ?_
        rw [e16]
        refine mr_ldN _ d_M_costNow_129 hm (by decide) (by decide) rfl rfl (by simp only [mo_len]; omega) ?_
        refine jm_iadd d_M_costNow_130 ?_
        refine jm_goto 135 d_M_costNow_131 (by decide) ?_
        refine jm_istore_n d_M_costNow_135 (Nat.le_of_ble_eq_true rfl) ?_
        refine jm_iincL (v := nI (p + 1)) d_M_costNow_136 rfl (by rw [nI_succ]; rfl) ?_
        refine jm_goto 18 d_M_costNow_139 (by decide) ?_
        first | (rw [show s1N S nv a (p + 1) = s1N S nv a p from if_neg (fun q => hb91 (hu.mpr q))] at e9; exact e9 _) | (rw [show s1N S nv a (p + 1) = s1N S nv a p + N S 8 (16 * p + 4 * nv (N S 6 p) + nv (N S 7 p)) from if_pos (hu.mp hb91), ← nI_add, ← h8] at e9; exact e9 _)
    refine jm_iload_n d_M_costNow_18 rfl ?_
    first | refine jm_aload_n d_M_costNow_19 rfl ?_ | refine jm_aload_nN d_M_costNow_19 rfl ?_
    refine mr_geti d_M_costNow_20 f_M_146 hm (by decide) rfl ?_
    rw [w5]
    refine jm_icmp_ge 142 d_M_costNow_23 (by decide) (fun hb23 => ?_) (fun hb23 => ?_)
    · exact absurd hb23 (nI_ge (by omega) (by omega))
    · first | refine jm_aload_n d_M_costNow_26 rfl ?_ | refine jm_aload_nN d_M_costNow_26 rfl ?_
      refine mr_geta d_M_costNow_27 f_M_16 hm (by decide) (by decide) ?_
      refine jm_iload_n d_M_costNow_30 rfl ?_
      refine mr_ldN _ d_M_costNow_31 hm (by decide) (by decide) rfl rfl (by simp only [mo_len]; omega) ?_
      refine jm_iload_n d_M_costNow_32 rfl ?_
      refine jm_icmp_ne 54 d_M_costNow_33 (by decide) (fun hb33 => ?_) (fun hb33 => ?_)
      · first | refine jm_aload_n d_M_costNow_54 rfl ?_ | refine jm_aload_nN d_M_costNow_54 rfl ?_
        refine mr_geta d_M_costNow_55 f_M_19 hm (by decide) (by decide) ?_
        refine jm_iload_n d_M_costNow_58 rfl ?_
        refine mr_ldN _ d_M_costNow_59 hm (by decide) (by decide) rfl rfl (by simp only [mo_len]; omega) ?_
        refine jm_iload_n d_M_costNow_60 rfl ?_
        refine jm_icmp_ne 86 d_M_costNow_61 (by decide) (fun hb61 => ?_) (fun hb61 => ?_)
        · refine jm_iconstL (v := 0) d_M_costNow_86 (by decide) ?_
          exact K False (iff_of_false id (fun q => by rcases q with ⟨q1, q2⟩ | ⟨q1, q2⟩; (first | exact hb33 q1 | exact hb51 q2); (first | exact hb61 q1 | exact hb79 q2))) _
        · first | refine jm_aload_n d_M_costNow_64 rfl ?_ | refine jm_aload_nN d_M_costNow_64 rfl ?_
          refine mr_geta d_M_costNow_65 f_M_50 hm (by decide) (by decide) ?_
          refine jm_iload_n d_M_costNow_68 rfl ?_
          refine mr_ldN _ d_M_costNow_69 hm (by decide) (by decide) rfl rfl (by simp only [mo_len]; omega) ?_
          first | refine jm_aload_n d_M_costNow_70 rfl ?_ | refine jm_aload_nN d_M_costNow_70 rfl ?_
          refine mr_geta d_M_costNow_71 f_M_16 hm (by decide) (by decide) ?_
          refine jm_iload_n d_M_costNow_74 rfl ?_
          refine mr_ldN _ d_M_costNow_75 hm (by decide) (by decide) rfl rfl (by simp only [mo_len]; omega) ?_
          refine jm_callSp (As := [_, _]) d_M_costNow_76 l_M_120 sw_M_has nv_M_has rfl (Nat.le_of_ble_eq_true rfl) (by omega : 0 + 1 ≤ _) (k_M_has _ _) ?_
          first | refine jm_bz_eq 86 d_M_costNow_79 (by decide) (fun hb79 => ?_) (fun hb79 => ?_) | refine jm_if_eq 86 d_M_costNow_79 (by decide) (fun hb79 => ?_) (fun hb79 => ?_)
          · refine jm_iconstL (v := 0) d_M_costNow_86 (by decide) ?_
            exact K False (iff_of_false id (fun q => by rcases q with ⟨q1, q2⟩ | ⟨q1, q2⟩; (first | exact hb33 q1 | exact hb51 q2); (first | exact hb61 q1 | exact hb79 q2))) _
          · refine jm_iconstL (v := 1) d_M_costNow_82 (by decide) ?_
            refine jm_goto 87 d_M_costNow_83 (by decide) ?_
            exact K True (iff_of_true trivial (by first | exact Or.inl ⟨Decidable.not_not.mp hb33, hb51⟩ | exact Or.inr ⟨Decidable.not_not.mp hb61, hb79⟩)) _
      · first | refine jm_aload_n d_M_costNow_36 rfl ?_ | refine jm_aload_nN d_M_costNow_36 rfl ?_
        refine mr_geta d_M_costNow_37 f_M_50 hm (by decide) (by decide) ?_
        refine jm_iload_n d_M_costNow_40 rfl ?_
        refine mr_ldN _ d_M_costNow_41 hm (by decide) (by decide) rfl rfl (by simp only [mo_len]; omega) ?_
        first | refine jm_aload_n d_M_costNow_42 rfl ?_ | refine jm_aload_nN d_M_costNow_42 rfl ?_
        refine mr_geta d_M_costNow_43 f_M_19 hm (by decide) (by decide) ?_
        refine jm_iload_n d_M_costNow_46 rfl ?_
        refine mr_ldN _ d_M_costNow_47 hm (by decide) (by decide) rfl rfl (by simp only [mo_len]; omega) ?_
        refine jm_callSp (As := [_, _]) d_M_costNow_48 l_M_120 sw_M_has nv_M_has rfl (Nat.le_of_ble_eq_true rfl) (by omega : 0 + 1 ≤ _) (k_M_has _ _) ?_
        first | refine jm_bz_ne 82 d_M_costNow_51 (by decide) (fun hb51 => ?_) (fun hb51 => ?_) | refine jm_if_ne 82 d_M_costNow_51 (by decide) (fun hb51 => ?_) (fun hb51 => ?_)
        · refine jm_iconstL (v := 1) d_M_costNow_82 (by decide) ?_
          refine jm_goto 87 d_M_costNow_83 (by decide) ?_
          exact K True (iff_of_true trivial (by first | exact Or.inl ⟨Decidable.not_not.mp hb33, hb51⟩ | exact Or.inr ⟨Decidable.not_not.mp hb61, hb79⟩)) _
        · first | refine jm_aload_n d_M_costNow_54 rfl ?_ | refine jm_aload_nN d_M_costNow_54 rfl ?_
          refine mr_geta d_M_costNow_55 f_M_19 hm (by decide) (by decide) ?_
          refine jm_iload_n d_M_costNow_58 rfl ?_
          refine mr_ldN _ d_M_costNow_59 hm (by decide) (by decide) rfl rfl (by simp only [mo_len]; omega) ?_
          refine jm_iload_n d_M_costNow_60 rfl ?_
          refine jm_icmp_ne 86 d_M_costNow_61 (by decide) (fun hb61 => ?_) (fun hb61 => ?_)
          · refine jm_iconstL (v := 0) d_M_costNow_86 (by decide) ?_
            exact K False (iff_of_false id (fun q => by rcases q with ⟨q1, q2⟩ | ⟨q1, q2⟩; (first | exact hb33 q1 | exact hb51 q2); (first | exact hb61 q1 | exact hb79 q2))) _
          · first | refine jm_aload_n d_M_costNow_64 rfl ?_ | refine jm_aload_nN d_M_costNow_64 rfl ?_
            refine mr_geta d_M_costNow_65 f_M_50 hm (by decide) (by decide) ?_
            refine jm_iload_n d_M_costNow_68 rfl ?_
            refine mr_ldN _ d_M_costNow_69 hm (by decide) (by decide) rfl rfl (by simp only [mo_len]; omega) ?_
            first | refine jm_aload_n d_M_costNow_70 rfl ?_ | refine jm_aload_nN d_M_costNow_70 rfl ?_
            refine mr_geta d_M_costNow_71 f_M_16 hm (by decide) (by decide) ?_
            refine jm_iload_n d_M_costNow_74 rfl ?_
            refine mr_ldN _ d_M_costNow_75 hm (by decide) (by decide) rfl rfl (by simp only [mo_len]; omega) ?_
            refine jm_callSp (As := [_, _]) d_M_costNow_76 l_M_120 sw_M_has nv_M_has rfl (Nat.le_of_ble_eq_true rfl) (by omega : 0 + 1 ≤ _) (k_M_has _ _) ?_
            first | refine jm_bz_eq 86 d_M_costNow_79 (by decide) (fun hb79 => ?_) (fun hb79 => ?_) | refine jm_if_eq 86 d_M_costNow_79 (by decide) (fun hb79 => ?_) (fun hb79 => ?_)
            · refine jm_iconstL (v := 0) d_M_costNow_86 (by decide) ?_
              exact K False (iff_of_false id (fun q => by rcases q with ⟨q1, q2⟩ | ⟨q1, q2⟩; (first | exact hb33 q1 | exact hb51 q2); (first | exact hb61 q1 | exact hb79 q2))) _
            · refine jm_iconstL (v := 1) d_M_costNow_82 (by decide) ?_
              refine jm_goto 87 d_M_costNow_83 (by decide) ?_
              exact K True (iff_of_true trivial (by first | exact Or.inl ⟨Decidable.not_not.mp hb33, hb51⟩ | exact Or.inr ⟨Decidable.not_not.mp hb61, hb79⟩)) _
theorem k_M_costNow {n a np cc : Nat} {nv : Nat → Nat} (hd : 2 ≤ d) (ha : a < 8) (hw : cwf S n a np cc) (hv : nvok S n nv) (h32 : ∀ b, b < 8 → S 32 b = nI (nv b)) : mA Γ m_M_costNow d m ar [.int (nI a)] S (some (.int (nI (costN S nv a np cc)))) := by
  intro h hm
  have v0 := And.intro (h32 a ha) (hv a ha).1
  have e4 : (4 : Int32) * nI a + nI (nv a) = nI (4 * a + nv a) := by rw [show (4 : Int32) = nI 4 from rfl, pk_mul, nI_add]
  have h4 := (hw.2.2.2.2.2.2.2.1 (4 * a + nv a) (by omega)).1
  refine jm_entry (by decide +kernel) (List.forall_mem_cons.mpr ⟨rfl, List.forall_mem_cons.mpr ⟨rfl, fun _ h => nomatch h⟩⟩) (Nat.le_of_ble_eq_true rfl) ?_
  show jm_W _ _ _ _ _ _ 0 [some (.ref m), some (.int (nI a)), none, none, none] [] _
  first | refine jm_aload_n d_M_costNow_0 rfl ?_ | refine jm_aload_nN d_M_costNow_0 rfl ?_
  refine mr_geta d_M_costNow_1 f_M_13 hm (by decide) (by decide) ?_
  refine jm_iconstL (v := nI 4) d_M_costNow_4 (by decide) ?_
  refine jm_iload_n d_M_costNow_5 rfl ?_
  refine jm_imul d_M_costNow_6 ?_
  first | refine jm_aload_n d_M_costNow_7 rfl ?_ | refine jm_aload_nN d_M_costNow_7 rfl ?_
  refine mr_geta d_M_costNow_8 f_M_92 hm (by decide) (by decide) ?_
  refine jm_iload_n d_M_costNow_11 rfl ?_
  refine mr_ldN _ d_M_costNow_12 hm (by decide) (by decide) rfl rfl (by simp only [mo_len]; omega) ?_
  rw [v0.1]
  refine jm_iadd d_M_costNow_13 ?_
  rw [show nI 4 = (4 : Int32) from rfl, e4]
  refine mr_ldN _ d_M_costNow_14 hm (by decide) (by decide) rfl rfl (by simp only [mo_len]; omega) ?_
  rw [h4]
  refine jm_istore_n d_M_costNow_15 (Nat.le_of_ble_eq_true rfl) ?_
  refine jm_iconstL (v := nI 0) d_M_costNow_16 (by decide) ?_
  refine jm_istore_n d_M_costNow_17 (Nat.le_of_ble_eq_true rfl) ?_
  exact lp_M_cost1 hd ha hw hv h32 hm np 0 (by omega) _
end
