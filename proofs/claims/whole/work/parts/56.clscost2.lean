/-! THE CLASS: entryAt, costWith, leastCost. Written by wip/whole/gen/p56.py -/
section
variable {Γ : jm_G} {d x : Nat} {L sz : Nat → Nat → Nat} {C : mS} {h : jm_H} {ρ : Nat → Nat}
def unI (z : Nat → Int32) (y : Int32) : Nat → Int32
  | 0 => 1
  | k + 1 => if cI y (nI k) then unI z y k * z k else unI z y k
def plI (z : Nat → Int32) (y : Int32) (g : Nat → Int32) : Nat → Int32
  | 0 => 0
  | k + 1 => if cI y (nI k) then plI z y g k + g k * unI z y k else plI z y g k
/-- the entry of a row (w long, or none) at a place -/
def etV (w : Int32) (f : Nat → Int32) (p : Int32) : Int32 := if w ≠ -1 ∧ 0 ≤ p ∧ p < w then f p.toNatClampNeg else -2
/-- a row of eight numbers -/
abbrev V8 (h : jm_H) (q : Nat) (g : Nat → Int32) : Prop := h.1 q = some (100, 8) ∧ ∀ i, i < 8 → h.2 100 i q = .int (g i)
theorem lp_B_entryAt {rc rs n vq : Nat} {y : Int32} {g : Nat → Int32} {Q : jm_O → jm_H → Prop} {w1 : Option Value} (hd : 1 ≤ d) (hc : co Γ h x L ρ sz C) (hn : C 1 0 = nI n) (hs : sz 1 0 = n) (h8 : n ≤ 8) (hV : V8 h vq g)
    (hQ : ∀ x5 x6, jm_W Γ m_B_entryAt d rc rs Q 60 [some (.ref x), w1, some (.int y), some (.ref vq), some (.int (plI (C 3) y g n)), x5, x6] [] h) : ∀ j b, b + j = n → jm_W Γ m_B_entryAt d rc rs Q 9 [some (.ref x), w1, some (.int y), some (.ref vq), some (.int (plI (C 3) y g b)), some (.int (unI (C 3) y b)), some (.int (nI b))] [] h := by
  intro j
  induction j with
  | zero =>
    intro b hb
    have hb' : b = n := by omega
    subst hb'
    refine jm_iload d_B_entryAt_9 rfl ?_
    refine jm_aload_n d_B_entryAt_11 rfl ?_
    refine cr_get 1 0 d_B_entryAt_12 f_B_42 hc rfl rfl rfl rfl (v := .int (C 1 0)) rfl ?_
    rw [hn]
    refine jm_icmp_ge 60 d_B_entryAt_15 (by decide) (fun hb15 => ?_) (fun hb15 => ?_)
    · exact hQ _ _
    · exact absurd (nI_le (by omega) (by omega)) hb15
  | succ j ih =>
    intro b hb
    have hbn : b < n := by omega
    have e9 := ih (b + 1) (by omega)
    refine jm_iload d_B_entryAt_9 rfl ?_
    refine jm_aload_n d_B_entryAt_11 rfl ?_
    refine cr_get 1 0 d_B_entryAt_12 f_B_42 hc rfl rfl rfl rfl (v := .int (C 1 0)) rfl ?_
    rw [hn]
    refine jm_icmp_ge 60 d_B_entryAt_15 (by decide) (fun hb15 => ?_) (fun hb15 => ?_)
    · exact absurd hb15 (nI_ge (by omega) (by omega))
    · refine jm_iload_n d_B_entryAt_18 rfl ?_
      refine jm_iload d_B_entryAt_19 rfl ?_
      refine jm_callSp (As := [_, _]) d_B_entryAt_21 l_B_227 sw_B_contains nv_B_contains rfl (Nat.le_of_ble_eq_true rfl) (by omega : 0 + 1 ≤ _) (k_B_contains _ _) ?_
      first | refine jm_bz_eq 54 d_B_entryAt_24 (by decide) (fun hb24 => ?_) (fun hb24 => ?_) | refine jm_if_eq 54 d_B_entryAt_24 (by decide) (fun hb24 => ?_) (fun hb24 => ?_)
      · refine jm_iincL (v := nI (b + 1)) d_B_entryAt_54 rfl (by rw [nI_succ]; rfl) ?_
        refine jm_goto 9 d_B_entryAt_57 (by decide) ?_
        first | rw [show plI (C 3) y g (b + 1) = plI (C 3) y g b from if_neg hb24, show unI (C 3) y (b + 1) = unI (C 3) y b from if_neg hb24] at e9 | rw [show plI (C 3) y g (b + 1) = plI (C 3) y g b + g b * unI (C 3) y b from if_pos hb24, show unI (C 3) y (b + 1) = unI (C 3) y b * C 3 b from if_pos hb24] at e9
        exact e9
      · refine jm_iload d_B_entryAt_27 rfl ?_
        refine jm_aload_n d_B_entryAt_29 rfl ?_
        refine jm_iload d_B_entryAt_30 rfl ?_
        refine jm_iaload d_B_entryAt_32 hV.1 (vp_in_nI (show b < 8 by omega) (by decide)) ?_; rw [nI_clamp (show b < 2 ^ 31 by omega), hV.2 b (by omega)]
        refine jm_iload d_B_entryAt_33 rfl ?_
        refine jm_imul d_B_entryAt_35 ?_
        refine jm_iadd d_B_entryAt_36 ?_
        refine jm_istore d_B_entryAt_37 (Nat.le_of_ble_eq_true rfl) ?_
        refine jm_iload d_B_entryAt_39 rfl ?_
        refine jm_aload_n d_B_entryAt_41 rfl ?_
        refine cr_get 78 0 d_B_entryAt_42 f_B_11 hc rfl rfl rfl rfl (v := .ref (L 0 0)) rfl ?_
        refine jm_iload d_B_entryAt_45 rfl ?_
        refine cr_ald 3 70 b (e := b) d_B_entryAt_47 (by decide) rfl hc (show b < sz 1 0 by omega) rfl rfl rfl rfl (by have := hc.B.1; omega) (by decide) (v := .ref (L 1 b)) rfl ?_
        refine cr_getG 3 b d_B_entryAt_48 f_B_245 hc (show b < sz 1 0 by omega) rfl rfl rfl (v := .int (C 3 b)) rfl ?_
        refine jm_imul d_B_entryAt_51 ?_
        refine jm_istore d_B_entryAt_52 (Nat.le_of_ble_eq_true rfl) ?_
        refine jm_iincL (v := nI (b + 1)) d_B_entryAt_54 rfl (by rw [nI_succ]; rfl) ?_
        refine jm_goto 9 d_B_entryAt_57 (by decide) ?_
        first | rw [show plI (C 3) y g (b + 1) = plI (C 3) y g b from if_neg hb24, show unI (C 3) y (b + 1) = unI (C 3) y b from if_neg hb24] at e9 | rw [show plI (C 3) y g (b + 1) = plI (C 3) y g b + g b * unI (C 3) y b from if_pos hb24, show unI (C 3) y (b + 1) = unI (C 3) y b * C 3 b from if_pos hb24] at e9
        exact e9
theorem k_B_entryAt {n vq : Nat} {tv : Value} {w : Int32} {f g : Nat → Int32} (hd : 1 ≤ d) (hc : co Γ h x L ρ sz C) (hn : C 1 0 = nI n) (hs : sz 1 0 = n) (h8 : n ≤ 8) (hT : TB h ρ tv w f) (hV : V8 h vq g) (y : Int32) : jm_A Γ m_B_entryAt d [.ref x, tv, .int y, .ref vq] h (some (.int (etV w f (plI (C 3) y g n)))) := by
  rcases hT with ⟨rfl, rfl⟩ | ⟨q, m, rfl, rfl, h256, hq, -, hq2⟩
  · refine jm_entry (by decide +kernel) (List.forall_mem_cons.mpr ⟨rfl, List.forall_mem_cons.mpr ⟨rfl, List.forall_mem_cons.mpr ⟨rfl, List.forall_mem_cons.mpr ⟨rfl, fun _ h => nomatch h⟩⟩⟩⟩) (Nat.le_of_ble_eq_true rfl) ?_
    show jm_W _ _ _ _ _ _ 0 [some (.ref x), some (.null), some (.int y), some (.ref vq), none, none, none] [] _
    refine jm_iconstL (v := nI 0) d_B_entryAt_0 (by decide) ?_
    refine jm_istore d_B_entryAt_1 (Nat.le_of_ble_eq_true rfl) ?_
    refine jm_iconstL (v := nI 1) d_B_entryAt_3 (by decide) ?_
    refine jm_istore d_B_entryAt_4 (Nat.le_of_ble_eq_true rfl) ?_
    refine jm_iconstL (v := nI 0) d_B_entryAt_6 (by decide) ?_
    refine jm_istore d_B_entryAt_7 (Nat.le_of_ble_eq_true rfl) ?_
    refine lp_B_entryAt hd hc hn hs h8 hV (fun x5 x6 => ?_) n 0 (by omega)
    refine jm_aload_nN d_B_entryAt_60 rfl ?_
    refine jm_ifnullN 83 d_B_entryAt_61 (by decide) ?_
    refine jm_bipushL (v := -2) d_B_entryAt_83 (by decide) ?_
    exact jm_iret d_B_entryAt_85 rfl ⟨rfl, by rw [etV, if_neg (fun q => q.1 rfl)]⟩
  · refine jm_entry (by decide +kernel) (List.forall_mem_cons.mpr ⟨rfl, List.forall_mem_cons.mpr ⟨rfl, List.forall_mem_cons.mpr ⟨rfl, List.forall_mem_cons.mpr ⟨rfl, fun _ h => nomatch h⟩⟩⟩⟩) (Nat.le_of_ble_eq_true rfl) ?_
    show jm_W _ _ _ _ _ _ 0 [some (.ref x), some (.ref q), some (.int y), some (.ref vq), none, none, none] [] _
    refine jm_iconstL (v := nI 0) d_B_entryAt_0 (by decide) ?_
    refine jm_istore d_B_entryAt_1 (Nat.le_of_ble_eq_true rfl) ?_
    refine jm_iconstL (v := nI 1) d_B_entryAt_3 (by decide) ?_
    refine jm_istore d_B_entryAt_4 (Nat.le_of_ble_eq_true rfl) ?_
    refine jm_iconstL (v := nI 0) d_B_entryAt_6 (by decide) ?_
    refine jm_istore d_B_entryAt_7 (Nat.le_of_ble_eq_true rfl) ?_
    refine lp_B_entryAt hd hc hn hs h8 hV (fun x5 x6 => ?_) n 0 (by omega)
    refine jm_aload_n d_B_entryAt_60 rfl ?_
    refine jm_ifnull d_B_entryAt_61 ?_
    refine jm_iload d_B_entryAt_64 rfl ?_
    refine jm_if_lt 83 d_B_entryAt_66 (by decide) (fun hb66 => ?_) (fun hb66 => ?_)
    · refine jm_bipushL (v := -2) d_B_entryAt_83 (by decide) ?_
      exact jm_iret d_B_entryAt_85 rfl ⟨rfl, by rw [etV, if_neg (fun q => absurd q.2.1 (Int32.not_le.mpr hb66))]⟩
    · refine jm_iload d_B_entryAt_69 rfl ?_
      refine jm_aload_n d_B_entryAt_71 rfl ?_
      refine jm_alen 0 d_B_entryAt_72 (by decide) hq ?_
      refine jm_icmp_ge 83 d_B_entryAt_73 (by decide) (fun hb73 => ?_) (fun hb73 => ?_)
      · refine jm_bipushL (v := -2) d_B_entryAt_83 (by decide) ?_
        exact jm_iret d_B_entryAt_85 rfl ⟨rfl, by rw [etV, if_neg (fun q => absurd q.2.2 (Int32.not_lt.mpr hb73))]⟩
      · obtain ⟨u, hu0, hue⟩ := nI_of (x := plI (C 3) y g n) hb66
        have hu : u < m := by
          have q := Int32.not_le.mp hb73
          rw [hue] at q
          exact (nI_ltI hu0 (by omega)).mp q
        refine jm_aload_n d_B_entryAt_76 rfl ?_
        refine jm_iload d_B_entryAt_77 rfl ?_
        rw [hue]
        refine jm_iaload d_B_entryAt_79 hq (vp_in_nI hu (by omega)) ?_; rw [nI_clamp (by omega), hq2 u hu]
        refine jm_goto 85 d_B_entryAt_80 (by decide) ?_
        exact jm_iret d_B_entryAt_85 rfl ⟨rfl, by rw [etV, if_pos ⟨nI_m1 (by omega), nI_pos' hu0, nI_lt hu (by omega)⟩, nI_clamp hu0]⟩
abbrev plusI (x y : Int32) : Int32 := if x = -2 ∨ y = -2 then -2 else x + y
def k1R (o lo hi pc an : Nat → Int32) (nv : Nat → Nat) (a : Nat) : Nat → Int32
  | 0 => o (4 * a + nv a)
  | p + 1 => if (lo p = nI a ∧ cI (an a) (hi p)) ∨ (hi p = nI a ∧ cI (an a) (lo p)) then plusI (k1R o lo hi pc an nv a p) (pc (16 * p + (4 * nv (lo p).toNatClampNeg + nv (hi p).toNatClampNeg))) else k1R o lo hi pc an nv a p
def k2R (s : Int32) (ca sp tw tf z : Nat → Int32) (g : Nat → Int32) (a n : Nat) : Nat → Int32
  | 0 => s
  | k + 1 => plusI (k2R s ca sp tw tf z g a n k) (etV (tw (8 * a + k)) (fun q => tf (256 * (8 * a + k) + q)) (plI z (sp (ca (8 * a + k)).toNatClampNeg) g n))
abbrev k1C (C : mS) : (Nat → Nat) → Nat → Nat → Int32 := k1R (C 4) (C 62) (C 63) (C 64) (C 17)
/-- the cost of a's value at the values g, and of what hangs at it -/
abbrev costC (C : mS) (nv : Nat → Nat) (g : Nat → Int32) (a n np cc : Nat) : Int32 := k2R (k1C C nv a np) (C 53) (C 22) (C 55) (C 56) (C 3) g a n cc
/-- the bounds that the cost needs -/
def cwC (sz : Nat → Nat → Nat) (C : mS) (n a np cc : Nat) : Prop := C 1 0 = nI n ∧ sz 1 0 = n ∧ n ≤ 8 ∧ a < n ∧ C 5 0 = nI np ∧ sz 6 0 = np ∧ np ≤ 12 ∧ C 52 a = nI cc ∧ sz 4 a = cc ∧ (∀ p, p < np → C 62 p = nI (N C 62 p) ∧ N C 62 p < 8 ∧ C 63 p = nI (N C 63 p) ∧ N C 63 p < 8) ∧ (∀ k, k < cc → ∃ b, b < n ∧ C 53 (8 * a + k) = nI b)
/-- the values that it reads -/
def vwC (C : mS) (nv : Nat → Nat) (g : Nat → Int32) (a np : Nat) : Prop := (g a = nI (nv a) ∧ nv a < 4) ∧ ∀ p, p < np → upC C a p → g (N C 62 p) = nI (nv (N C 62 p)) ∧ nv (N C 62 p) < 4 ∧ g (N C 63 p) = nI (nv (N C 63 p)) ∧ nv (N C 63 p) < 4
theorem lp_B_cost2 {rc rs n a np cc vq : Nat} {nv : Nat → Nat} {g : Nat → Int32} (hd : 2 ≤ d) (hc : co Γ h x L ρ sz C) (hw : cwC sz C n a np cc) (hV : V8 h vq g) : ∀ j k, k + j = cc → ∀ x5, jm_W Γ m_B_costWith d rc rs (fun oc h' => h' = h ∧ oc = .inl (some (.int (costC C nv g a n np cc)))) 86 [some (.ref x), some (.ref (L 1 a)), some (.ref vq), some (.int (k2R (k1C C nv a np) (C 53) (C 22) (C 55) (C 56) (C 3) g a n k)), some (.int (nI k)), x5] [] h := by
  obtain ⟨hn, hs, h8, ha, hp, hs6, h12, hcc, hs4, hpr, hch⟩ := hw
  have hc7 := hc.B.2.2.2 a
  intro j
  induction j with
  | zero =>
    intro k hk x5
    have hk' : k = cc := by omega
    subst hk'
    refine jm_iload d_B_costWith_86 rfl ?_
    refine jm_aload_n d_B_costWith_88 rfl ?_
    refine cr_get 52 a d_B_costWith_89 f_B_347 hc (show a < sz 1 0 by omega) rfl rfl rfl (v := .int (C 52 a)) rfl ?_
    rw [hcc]
    refine jm_icmp_ge 133 d_B_costWith_92 (by decide) (fun hb92 => ?_) (fun hb92 => ?_)
    · refine jm_iload_n d_B_costWith_133 rfl ?_
      exact jm_iret d_B_costWith_134 rfl ⟨rfl, rfl⟩
    · exact absurd (nI_le (by omega) (by omega)) hb92
  | succ j ih =>
    intro k hk x5
    have hkc : k < cc := by omega
    obtain ⟨b, hb, eb⟩ := hch k hkc
    have e9 := ih (k + 1) (by omega)
    have es : k2R (k1C C nv a np) (C 53) (C 22) (C 55) (C 56) (C 3) g a n (k + 1) = plusI (k2R (k1C C nv a np) (C 53) (C 22) (C 55) (C 56) (C 3) g a n k) (etV (C 55 (8 * a + k)) (fun q => C 56 (256 * (8 * a + k) + q)) (plI (C 3) (C 22 b) g n)) := by
      show plusI _ (etV _ _ (plI (C 3) (C 22 (C 53 (8 * a + k)).toNatClampNeg) g n)) = _
      rw [eb, nI_clamp (by omega)]
    rw [es] at e9
    refine jm_iload d_B_costWith_86 rfl ?_
    refine jm_aload_n d_B_costWith_88 rfl ?_
    refine cr_get 52 a d_B_costWith_89 f_B_347 hc (show a < sz 1 0 by omega) rfl rfl rfl (v := .int (C 52 a)) rfl ?_
    rw [hcc]
    refine jm_icmp_ge 133 d_B_costWith_92 (by decide) (fun hb92 => ?_) (fun hb92 => ?_)
    · exact absurd hb92 (nI_ge (by omega) (by omega))
    · refine jm_aload_n d_B_costWith_95 rfl ?_
      refine cr_getG 73 a d_B_costWith_96 f_B_350 hc (show a < sz 1 0 by omega) rfl rfl rfl (v := .ref (L 3 a)) rfl ?_
      refine jm_iload d_B_costWith_99 rfl ?_
      refine cr_aldS a k d_B_costWith_101 hc (by omega) (by omega) rfl ?_
      refine jm_astore d_B_costWith_102 (Nat.le_of_ble_eq_true rfl) ?_
      refine jm_iload_n d_B_costWith_104 rfl ?_
      refine jm_aload_n d_B_costWith_105 rfl ?_
      refine jm_aload d_B_costWith_106 rfl ?_
      refine cr_t55 (8 * a + k) d_B_costWith_108 f_B_307 hc (cv_ch (show a < sz 1 0 by omega) (show k < sz 4 a by omega) hc.B) (fun v9 hT9 => ?_)
      skip
      refine jm_aload d_B_costWith_111 rfl ?_
      refine cr_getG 53 (8 * a + k) d_B_costWith_113 f_B_354 hc (cv_ch (show a < sz 1 0 by omega) (show k < sz 4 a by omega) hc.B) rfl rfl rfl (v := .ref (L 1 b)) (cE_53 eb (by omega)) ?_
      refine cr_get 22 b d_B_costWith_116 f_B_242 hc (show b < sz 1 0 by omega) rfl rfl rfl (v := .int (C 22 b)) rfl ?_
      refine jm_aload_n d_B_costWith_119 rfl ?_
      refine jm_callVp (r := ("BargainTree", jm_F0, 9)) (As := [_, _, _]) d_B_costWith_120 l_B_358 iw_B_entryAt ew_B_entryAt rfl nv_B_entryAt rfl (hc.1 1 0 rfl).1 (Nat.le_of_ble_eq_true rfl) (by omega : 1 + 1 ≤ _) (k_B_entryAt (by omega) hc hn hs h8 hT9 hV _) ?_
      refine jm_callSp (As := [_, _]) d_B_costWith_123 l_B_344 sw_B_plus nv_B_plus rfl (Nat.le_of_ble_eq_true rfl) (by omega : 0 + 1 ≤ _) (k_B_plus _ _) ?_
      refine jm_istore_n d_B_costWith_126 (Nat.le_of_ble_eq_true rfl) ?_
      refine jm_iincL (v := nI (k + 1)) d_B_costWith_127 rfl (by rw [nI_succ]; rfl) ?_
      refine jm_goto 86 d_B_costWith_130 (by decide) ?_
      exact e9 _
theorem lp_B_cost1 {rc rs n a np cc vq : Nat} {nv : Nat → Nat} {g : Nat → Int32} (hd : 2 ≤ d) (hc : co Γ h x L ρ sz C) (hw : cwC sz C n a np cc) (hv : vwC C nv g a np) (hV : V8 h vq g) : ∀ j p, p + j = np → ∀ x5, jm_W Γ m_B_costWith d rc rs (fun oc h' => h' = h ∧ oc = .inl (some (.int (costC C nv g a n np cc)))) 15 [some (.ref x), some (.ref (L 1 a)), some (.ref vq), some (.int (k1C C nv a p)), some (.int (nI p)), x5] [] h := by
  have hw0 := hw
  obtain ⟨hn, hs, h8, ha, hp, hs6, h12, hcc, hs4, hpr, hch⟩ := hw
  intro j
  induction j with
  | zero =>
    intro p hpj x5
    have hp' : p = np := by omega
    subst hp'
    refine jm_iload d_B_costWith_15 rfl ?_
    refine jm_aload_n d_B_costWith_17 rfl ?_
    refine cr_get 5 0 d_B_costWith_18 f_B_74 hc rfl rfl rfl rfl (v := .int (C 5 0)) rfl ?_
    rw [hp]
    refine jm_icmp_ge 83 d_B_costWith_21 (by decide) (fun hb21 => ?_) (fun hb21 => ?_)
    · refine jm_iconstL (v := nI 0) d_B_costWith_83 (by decide) ?_
      refine jm_istore d_B_costWith_84 (Nat.le_of_ble_eq_true rfl) ?_
      exact lp_B_cost2 hd hc hw0 hV cc 0 (by omega) _
    · exact absurd (nI_le (by omega) (by omega)) hb21
  | succ j ih =>
    intro p hpj x5
    have hpn : p < np := by omega
    obtain ⟨q1, q2, q3, q4⟩ := hpr p hpn
    have e9 := ih (p + 1) (by omega)
    have es : k1C C nv a (p + 1) = if upC C a p then plusI (k1C C nv a p) (C 64 (16 * p + (4 * nv (N C 62 p) + nv (N C 63 p)))) else k1C C nv a p := rfl
    have e4 : nI (nv (N C 62 p)) * 4 + nI (nv (N C 63 p)) = nI (4 * nv (N C 62 p) + nv (N C 63 p)) := by rw [show (4 : Int32) = nI 4 from rfl, pk_mul, nI_add, Nat.mul_comm]
    refine jm_iload d_B_costWith_15 rfl ?_
    refine jm_aload_n d_B_costWith_17 rfl ?_
    refine cr_get 5 0 d_B_costWith_18 f_B_74 hc rfl rfl rfl rfl (v := .int (C 5 0)) rfl ?_
    rw [hp]
    refine jm_icmp_ge 83 d_B_costWith_21 (by decide) (fun hb21 => ?_) (fun hb21 => ?_)
    · exact absurd hb21 (nI_ge (by omega) (by omega))
    · refine jm_aload_n d_B_costWith_24 rfl ?_
      refine cr_get 79 0 d_B_costWith_25 f_B_17 hc rfl rfl rfl rfl (v := .ref (L 0 1)) rfl ?_
      refine jm_iload d_B_costWith_28 rfl ?_
      refine cr_ald 4 75 p (e := p) d_B_costWith_30 (by decide) rfl hc (show p < sz 6 0 by omega) rfl rfl rfl rfl (by have := hc.B.2.1; omega) (by decide) (v := .ref (L 6 p)) rfl ?_
      refine jm_astore d_B_costWith_31 (Nat.le_of_ble_eq_true rfl) ?_
      refine jm_aload d_B_costWith_33 rfl ?_
      refine jm_aload_n d_B_costWith_35 rfl ?_
      refine cr_callp (r := ("BargainTree$Pair", jm_F4, 3)) (As := [_]) d_B_costWith_36 l_B_341 iw_Q_joinsUpwards ew_Q_joinsUpwards rfl nv_Q_joinsUpwards rfl (hc.1 62 p (show p < sz 6 0 by omega)).1 (Nat.le_of_ble_eq_true rfl) (by omega : 1 + 1 ≤ _) (k_Q_joinsUpwards (by omega) (by omega) (by omega)) hc ?_
      first | refine jm_bz_eq 77 d_B_costWith_39 (by decide) (fun hb39 => ?_) (fun hb39 => ?_) | refine jm_if_eq 77 d_B_costWith_39 (by decide) (fun hb39 => ?_) (fun hb39 => ?_)
      · refine jm_iincL (v := nI (p + 1)) d_B_costWith_77 rfl (by rw [nI_succ]; rfl) ?_
        refine jm_goto 15 d_B_costWith_80 (by decide) ?_
        first | rw [es, if_pos hb39] at e9 | rw [es, if_neg hb39] at e9
        exact e9 _
      · obtain ⟨v1, v2, v3, v4⟩ := hv.2 p hpn hb39
        refine jm_iload_n d_B_costWith_42 rfl ?_
        refine jm_aload d_B_costWith_43 rfl ?_
        refine cr_getG 76 p d_B_costWith_45 f_B_102 hc (show p < sz 6 0 by omega) rfl rfl rfl (v := .ref (L 7 p)) rfl ?_
        refine jm_aload d_B_costWith_48 rfl ?_
        refine jm_aload d_B_costWith_50 rfl ?_
        refine cr_getG 62 p d_B_costWith_52 f_B_248 hc (show p < sz 6 0 by omega) rfl rfl rfl (v := .int (C 62 p)) rfl ?_
        refine jm_aload_n d_B_costWith_55 rfl ?_
        refine jm_aload d_B_costWith_56 rfl ?_
        refine cr_getG 62 p d_B_costWith_58 f_B_248 hc (show p < sz 6 0 by omega) rfl rfl rfl (v := .int (C 62 p)) rfl ?_
        rw [q1]
        refine jm_iaload d_B_costWith_61 hV.1 (vp_in_nI (show N C 62 p < 8 by omega) (by decide)) ?_; rw [nI_clamp (show N C 62 p < 2 ^ 31 by omega), hV.2 _ (by omega : N C 62 p < 8)]
        rw [v1]
        refine jm_aload_n d_B_costWith_62 rfl ?_
        refine jm_aload d_B_costWith_63 rfl ?_
        refine cr_getG 63 p d_B_costWith_65 f_B_251 hc (show p < sz 6 0 by omega) rfl rfl rfl (v := .int (C 63 p)) rfl ?_
        rw [q3]
        refine jm_iaload d_B_costWith_68 hV.1 (vp_in_nI (show N C 63 p < 8 by omega) (by decide)) ?_; rw [nI_clamp (show N C 63 p < 2 ^ 31 by omega), hV.2 _ (by omega : N C 63 p < 8)]
        rw [v3]
        refine cr_callp (r := ("BargainTree$Pair", jm_F4, 3)) (As := [_, _, _]) d_B_costWith_69 l_B_105 iw_Q_place ew_Q_place rfl nv_Q_place rfl (hc.1 62 p (show p < sz 6 0 by omega)).1 (Nat.le_of_ble_eq_true rfl) (by omega : 0 + 1 ≤ _) (k_Q_place (p := p) (by omega) _ _ _) hc ?_
        rw [if_pos q1.symm, e4]
        refine cr_ildR p (4 * nv (N C 62 p) + nv (N C 63 p)) d_B_costWith_72 hc (by omega) (by omega) rfl ?_
        refine jm_callSp (As := [_, _]) d_B_costWith_73 l_B_344 sw_B_plus nv_B_plus rfl (Nat.le_of_ble_eq_true rfl) (by omega : 0 + 1 ≤ _) (k_B_plus _ _) ?_
        refine jm_istore_n d_B_costWith_76 (Nat.le_of_ble_eq_true rfl) ?_
        refine jm_iincL (v := nI (p + 1)) d_B_costWith_77 rfl (by rw [nI_succ]; rfl) ?_
        refine jm_goto 15 d_B_costWith_80 (by decide) ?_
        first | rw [es, if_pos hb39] at e9 | rw [es, if_neg hb39] at e9
        exact e9 _
theorem k_B_costWith {n a np cc vq : Nat} {nv : Nat → Nat} {g : Nat → Int32} (hd : 2 ≤ d) (hc : co Γ h x L ρ sz C) (hw : cwC sz C n a np cc) (hv : vwC C nv g a np) (hV : V8 h vq g) : jm_A Γ m_B_costWith d [.ref x, .ref (L 1 a), .ref vq] h (some (.int (costC C nv g a n np cc))) := by
  have hs := hw.2.1
  have ha := hw.2.2.2.1
  have h8 := hw.2.2.1
  obtain ⟨v1, v2⟩ := hv.1
  refine jm_entry (by decide +kernel) (List.forall_mem_cons.mpr ⟨rfl, List.forall_mem_cons.mpr ⟨rfl, List.forall_mem_cons.mpr ⟨rfl, fun _ h => nomatch h⟩⟩⟩) (Nat.le_of_ble_eq_true rfl) ?_
  show jm_W _ _ _ _ _ _ 0 [some (.ref x), some (.ref (L 1 a)), some (.ref vq), none, none, none] [] _
  refine jm_aload_n d_B_costWith_0 rfl ?_
  refine cr_getG 72 a d_B_costWith_1 f_B_66 hc (show a < sz 1 0 by omega) rfl rfl rfl (v := .ref (L 2 a)) rfl ?_
  refine jm_aload_n d_B_costWith_4 rfl ?_
  refine jm_aload_n d_B_costWith_5 rfl ?_
  refine cr_getG 71 a d_B_costWith_6 f_B_294 hc (show a < sz 1 0 by omega) rfl rfl rfl (v := .int (nI a)) rfl ?_
  refine jm_iaload d_B_costWith_9 hV.1 (vp_in_nI (show a < 8 by omega) (by decide)) ?_; rw [nI_clamp (show a < 2 ^ 31 by omega), hV.2 a (by omega), v1]
  refine cr_ildO a (nv a) d_B_costWith_10 hc (by omega) (by omega) rfl ?_
  refine jm_istore_n d_B_costWith_11 (Nat.le_of_ble_eq_true rfl) ?_
  refine jm_iconstL (v := nI 0) d_B_costWith_12 (by decide) ?_
  refine jm_istore d_B_costWith_13 (Nat.le_of_ble_eq_true rfl) ?_
  exact lp_B_cost1 hd hc hw hv hV np 0 (by omega) _
end
