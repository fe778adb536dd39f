/-! THE CLASS: makeTable. Written by wip/whole/gen/p69.py -/
section
variable {Γ : jm_G} {d : Nat} {h h0 : jm_H} {x : Nat} {L : Nat → Nat → Nat} {ρ ρ0 : Nat → Nat} {sz : Nat → Nat → Nat} {C D : mS}
theorem cwC_eq {n a np cc : Nat} (hr : ∀ j, j ≠ 32 → D j = C j) (h : cwC sz C n a np cc) : cwC sz D n a np cc := by
  unfold cwC N at *
  rw [hr 1 (by decide), hr 5 (by decide), hr 52 (by decide), hr 53 (by decide), hr 62 (by decide), hr 63 (by decide)]
  exact h
theorem costC_eq {n a np cc : Nat} {nv : Nat → Nat} {g : Nat → Int32} (hr : ∀ j, j ≠ 32 → j ≠ 57 → j ≠ 58 → j ≠ 23 → j ≠ 27 → D j = C j) : costC D nv g a n np cc = costC C nv g a n np cc := by
  unfold costC k1C
  rw [hr 3 (by decide) (by decide) (by decide) (by decide) (by decide), hr 4 (by decide) (by decide) (by decide) (by decide) (by decide), hr 17 (by decide) (by decide) (by decide) (by decide) (by decide), hr 22 (by decide) (by decide) (by decide) (by decide) (by decide), hr 53 (by decide) (by decide) (by decide) (by decide) (by decide), hr 55 (by decide) (by decide) (by decide) (by decide) (by decide), hr 56 (by decide) (by decide) (by decide) (by decide) (by decide), hr 62 (by decide) (by decide) (by decide) (by decide) (by decide), hr 63 (by decide) (by decide) (by decide) (by decide) (by decide), hr 64 (by decide) (by decide) (by decide) (by decide) (by decide)]
/-- what makes the table of a out of its costs -/
abbrev mtT (C : mS) (a n np cc z w : Nat) (t : Nat → Int32) : Prop := ∀ i, i < w → ∀ g : Nat → Int32, (∀ b, b < n → cI (C 22 a) (nI b) → g b = nI (dgR (C 3) (C 22 a) i b)) → lcR (fun v => costC C (upn (dgR (C 3) (C 22 a) i) a v) (gUp g a v) a n np cc) z = t i
abbrev mtU (C : mS) (a n np : Nat) : Prop := ∀ p, p < np → upC C a p → (N C 62 p = a ∨ (N C 62 p < n ∧ cI (C 22 a) (nI (N C 62 p)))) ∧ (N C 63 p = a ∨ (N C 63 p < n ∧ cI (C 22 a) (nI (N C 63 p))))
abbrev mtC (D : mS) (a w : Nat) (r : Int32) (t : Nat → Int32) : mS := mu (mu (tbS D 57 58 a (nI w) t) 23 a r) 27 0 (D 27 0 + 1)
theorem lp_B_makeTable {q a n np cc z w : Nat} {r : Int32} {t : Nat → Int32} {Q : jm_O → jm_H → Prop} (hd : 4 ≤ d) (hw : cwC sz C n a np cc) (hz3 : ∀ b, b < n → C 3 b = nI (N C 3 b) ∧ N C 3 b ≤ 4 ∧ 1 ≤ N C 3 b) (hz : C 3 a = nI z) (hz1 : 1 ≤ z) (hz4 : z ≤ 4) (ht : mtT C a n np cc z w t) (hU : mtU C a n np) (hw256 : w ≤ 256) (hq0 : h0.1 q = none)
    {rc rs : Nat} (kk : ∀ (h : jm_H) (ρ : Nat → Nat) (D : mS), co Γ h x L ρ sz D → (∀ j, j ≠ 32 → D j = C j) → xt ρ0 h0 ρ h → ρ q = 6 → h.1 q = some (100, w) → (∀ i, i < w → h.2 100 i q = .int (t i)) → jm_W Γ m_B_makeTable d rc rs Q 62 [some (.ref x), some (.ref (L 1 a)), some (.int r), some (.int (nI w)), some (.ref q), some (.int (nI w))] [] h) :
    ∀ j k, k + j = w → ∀ {h : jm_H} {ρ : Nat → Nat} {D : mS}, co Γ h x L ρ sz D → (∀ j, j ≠ 32 → D j = C j) → xt ρ0 h0 ρ h → ρ q = 6 → h.1 q = some (100, w) → (∀ i, i < k → h.2 100 i q = .int (t i)) →
      jm_W Γ m_B_makeTable d rc rs Q 30 [some (.ref x), some (.ref (L 1 a)), some (.int r), some (.int (nI w)), some (.ref q), some (.int (nI k))] [] h := by
  intro j
  have ha1 : a < sz 1 0 := by have := hw.2.1; have := hw.2.2.2.1; omega
  induction j with
  | zero =>
    intro k hk h ρ D hc hr hf h6 hq hi
    have ek : k = w := by omega
    refine jm_iload d_B_makeTable_30 rfl ?_
    refine jm_iload_n d_B_makeTable_32 rfl ?_
    refine jm_icmp_ge 62 d_B_makeTable_33 (by decide) (fun hb33 => ?_) (fun hb33 => ?_)
    · rw [ek]
      exact kk h ρ D hc hr hf h6 hq (fun i hi9 => hi i (by omega))
    · exact absurd (nI_le (by omega) (by omega)) hb33
  | succ j ih =>
    intro k hk h ρ D hc hr hf h6 hq hi
    refine jm_iload d_B_makeTable_30 rfl ?_
    refine jm_iload_n d_B_makeTable_32 rfl ?_
    refine jm_icmp_ge 62 d_B_makeTable_33 (by decide) (fun hb33 => ?_) (fun hb33 => ?_)
    · exact absurd hb33 (nI_ge (by omega) (by omega))
    · refine jm_aload_n d_B_makeTable_36 rfl ?_
      refine jm_aload_n d_B_makeTable_37 rfl ?_
      refine cr_get 22 a d_B_makeTable_38 f_B_242 hc (show a < sz 1 0 by omega) rfl rfl rfl (v := .int (D 22 a)) rfl ?_
      refine jm_iload d_B_makeTable_41 rfl ?_
      refine cr_call (r := ("BargainTree", jm_F0, 9)) (As := [_, _]) d_B_makeTable_43 l_B_320 iw_B_tryEntry ew_B_tryEntry rfl nv_B_tryEntry rfl (hc.1 1 0 rfl).1 (Nat.le_of_ble_eq_true rfl) (by omega : 1 + 1 ≤ _) (Nat.zero_le _) (Nat.zero_le _) (k_B_tryEntry (n := n) (i := k) (by rw [hr 1 (by decide)]; exact hw.1) hw.2.1 hw.2.2.1 (by omega) (by unfold N; rw [hr 3 (by decide)]; exact hz3) (D 22 a) (by omega)) hc hf (fun X L' sz' C' q => by cases q.1) (fun v9 L' ρ' sz' C' h' hq9 hc2 hf2 hx2 => ?_)
      obtain ⟨e0, rfl, rfl, eC⟩ := hq9
      cases e0
      have hc := hc2
      have hf := hf2
      have hr' : ∀ j, j ≠ 32 → C' j = C j := fun j z9 => by
        rw [eC]; funext i; unfold tyS; rw [if_neg (fun y => z9 y.1), hr j z9]
      have g32 : ∀ b, b < n → cI (C 22 a) (nI b) → C' 32 b = nI (dgR (C 3) (C 22 a) k b) := fun b hb hy => by
        rw [eC, hr 22 (by decide)]; unfold tyS; rw [if_pos ⟨rfl, hb, hy⟩, hr 3 (by decide)]
      have dg4 : ∀ b, b < n → dgR (C 3) (C 22 a) k b < 4 := fun b hb => by
        obtain ⟨z1, z2, z3⟩ := hz3 b hb
        unfold dgR; split
        · have := Nat.mod_lt (k / unR (C 3) (C 22 a) b) (show 0 < (C 3 b).toNatClampNeg from z3); have z2' : (C 3 b).toNatClampNeg ≤ 4 := z2; omega
        · omega
      have hup : ∀ v, v < z → vwC C' (upn (dgR (C 3) (C 22 a) k) a v) (mu C' 32 a (nI v) 32) a np := fun v hv => by
        have one : ∀ e, e = a ∨ (e < n ∧ cI (C 22 a) (nI e)) → mu C' 32 a (nI v) 32 e = nI (upn (dgR (C 3) (C 22 a) k) a v e) ∧ upn (dgR (C 3) (C 22 a) k) a v e < 4 := fun e he => by
          by_cases y : e = a
          · rw [y, mu_same]; unfold upn; rw [if_pos rfl]; exact ⟨rfl, by omega⟩
          · obtain ⟨y1, y2⟩ := he.resolve_left y
            unfold upn; rw [if_neg y]
            exact ⟨by rw [← g32 e y1 y2]; simp [mu, y], dg4 e y1⟩
        refine ⟨one a (Or.inl rfl), fun p hp hu => ?_⟩
        have hu' : upC C a p := by unfold upC at hu ⊢; rw [hr' 62 (by decide), hr' 63 (by decide), hr' 17 (by decide)] at hu; exact hu
        have := hU p hp hu'
        unfold N; rw [hr' 62 (by decide), hr' 63 (by decide)]
        exact ⟨(one _ this.1).1, (one _ this.1).2, (one _ this.2).1, (one _ this.2).2⟩
      have h6 : ρ' q = 6 := ((hx2 q (by rw [hq]; exact fun z9 => by cases z9)).2.1).trans h6
      have kq := hx2 q (by rw [hq]; exact fun z9 => by cases z9)
      have hi : ∀ i, i < k → h'.2 100 i q = .int (t i) := fun i hi9 => by rw [kq.2.2 (Or.inr (kq.2.1.symm.trans h6)) 100 i]; exact hi i hi9
      have hq : h'.1 q = some (100, w) := kq.1.trans hq
      refine jm_aload d_B_makeTable_46 rfl ?_
      refine jm_iload d_B_makeTable_48 rfl ?_
      refine jm_aload_n d_B_makeTable_50 rfl ?_
      refine jm_aload_n d_B_makeTable_51 rfl ?_
      refine cr_call (r := ("BargainTree", jm_F0, 9)) (As := [_]) d_B_makeTable_52 l_B_323 iw_B_leastCost ew_B_leastCost rfl nv_B_leastCost rfl (hc.1 1 0 rfl).1 (Nat.le_of_ble_eq_true rfl) (by omega : 3 + 1 ≤ _) (Nat.zero_le _) (Nat.zero_le _) (k_B_leastCost (a := a) (z := z) (nv := dgR (C 3) (C 22 a) k) (by omega) (cwC_eq hr' hw) (by rw [hr' 3 (by decide)]; exact hz) hz1 hz4 hup) hc hf (fun X L' sz' C' q => by cases q.1) (fun v9 L2 ρ2 sz2 C2 h2 hq9 hc3 hf3 hx3 => ?_)
      obtain ⟨e0, rfl, rfl, eC2⟩ := hq9
      cases e0
      have et : lcR (lcF C' (dgR (C 3) (C 22 a) k) a n np cc) z = t k := by
        rw [← ht k (by omega) (C' 32) g32]
        refine congrArg (fun f => lcR f z) (funext fun v => ?_)
        show costC C' _ (mu C' 32 a (nI v) 32) a n np cc = _
        rw [costC_eq (fun j z1 _ _ _ _ => hr' j z1)]
        refine congrArg (fun g => costC C _ g a n np cc) (funext fun b => ?_)
        simp [mu, gUp]
      rw [et]
      have kq3 := hx3 q (by rw [hq]; exact fun z9 => by cases z9)
      have h63 : ρ2 q = 6 := kq3.2.1.trans h6
      have hi3 : ∀ i, i < k → h2.2 100 i q = .int (t i) := fun i hi9 => by rw [kq3.2.2 (Or.inr h6) 100 i]; exact hi i hi9
      have hq3 : h2.1 q = some (100, w) := kq3.1.trans hq
      refine jm_iastore d_B_makeTable_55 hq3 (vp_in_nI (show k < w by omega) (by omega)) ?_
      rw [nI_clamp (show k < 2 ^ 31 by omega)]
      refine jm_iincL (v := nI (k + 1)) d_B_makeTable_56 rfl (by rw [nI_succ]; rfl) ?_
      refine jm_goto 30 d_B_makeTable_59 (by decide) ?_
      exact ih (k + 1) (by omega) (co_wp hc3 h63) (fun j z9 => by rw [eC2, mu_row z9]; exact hr' j z9) (xt_wp hf3 hq0) h63 hq3 (fun i hi9 => by
        by_cases e : i = k
        · simp [jm_set, e]
        · simp [jm_set, e]; exact hi3 i (by omega))
end
section
variable {Γ : jm_G} {d x : Nat} {L sz : Nat → Nat → Nat} {C : mS} {h : jm_H} {ρ : Nat → Nat}
theorem k_B_makeTable {n a np cc nl z w : Nat} {r : Int32} {t : Nat → Int32} (hd : 4 ≤ d) (hw : cwC sz C n a np cc) (hz3 : ∀ b, b < n → C 3 b = nI (N C 3 b) ∧ N C 3 b ≤ 4 ∧ 1 ≤ N C 3 b) (hz : C 3 a = nI z) (hz1 : 1 ≤ z) (hz4 : z ≤ 4) (hww : w = unR (C 3) (C 22 a) n) (hw31 : w < 2 ^ 31) (ht : w ≤ 256 → mtT C a n np cc z w t) (hU : mtU C a n np) (hroot : rootC C a → ∀ p, p < np → ¬ upC C a p) (hcc : cc ≤ 7) (hn20 : C 34 0 = nI nl) (hs20 : sz 8 0 = nl) (h20 : nl ≤ 20) (hpt : ptC sz C a) : cM Γ m_B_makeTable d x [.ref x, .ref (L 1 a), .int r] L sz C 10 307 (fun oc L' sz' C' => oc = .inl none ∧ ((256 < w ∧ L' = L ∧ sz' = sz ∧ C' = mu C 15 a 1) ∨ (w ≤ 256 ∧ kL8 L L' ∧ ∃ D : mS, (∀ j, j ≠ 32 → D j = C j) ∧ ((rootC C a ∧ chQ (mtC D a w r t) sz a r n np cc nl z (fun _ => 0) (fun _ => -1) sz' C') ∨ (¬ rootC C a ∧ ((C 16 a = -1 ∧ sz' = sz ∧ C' = mtC D a w r t) ∨ (C 16 a ≠ -1 ∧ sz' = lu sz 8 0 (nlS nl) ∧ C' = sndC (mtC D a w r t) nl 2 (nI a) (C 16 a) r (nI w) (fun i => mtC D a w r t 58 (256 * a + i))))))))) := by
  intro h ρ hc
  have hf : xt ρ h ρ h := xt.rf
  have ha1 : a < sz 1 0 := by have := hw.2.1; have := hw.2.2.2.1; omega
  refine jm_entry (by decide +kernel) (List.forall_mem_cons.mpr ⟨rfl, List.forall_mem_cons.mpr ⟨rfl, List.forall_mem_cons.mpr ⟨rfl, fun _ h => nomatch h⟩⟩⟩) (Nat.le_of_ble_eq_true rfl) ?_
  show jm_W _ _ _ _ _ _ 0 [some (.ref x), some (.ref (L 1 a)), some (.int r), none, none, none] [] _
  refine jm_aload_n d_B_makeTable_0 rfl ?_
  refine jm_aload_n d_B_makeTable_1 rfl ?_
  refine cr_get 22 a d_B_makeTable_2 f_B_242 hc (show a < sz 1 0 by omega) rfl rfl rfl (v := .int (C 22 a)) rfl ?_
  refine cr_callp (r := ("BargainTree", jm_F0, 9)) (As := [_]) d_B_makeTable_5 l_B_317 iw_B_tableSize ew_B_tableSize rfl nv_B_tableSize rfl (hc.1 1 0 rfl).1 (Nat.le_of_ble_eq_true rfl) (by omega : 1 + 1 ≤ _) (k_B_tableSize hw.1 hw.2.1 hw.2.2.1 (by omega) (fun b hb => (hz3 b hb).1) _) hc ?_
  rw [← hww]
  refine jm_istore_n d_B_makeTable_8 (Nat.le_of_ble_eq_true rfl) ?_
  refine jm_iload_n d_B_makeTable_9 rfl ?_
  refine jm_sipushL (v := 256) d_B_makeTable_10 (by decide) ?_
  refine jm_icmp_le 22 d_B_makeTable_13 (by decide) (fun hb13 => ?_) (fun hb13 => ?_)
  · refine jm_iload_n d_B_makeTable_22 rfl ?_
    have hw256 : w ≤ 256 := (nI_leI (b := 256) hw31 (by omega)).mp hb13
    refine jm_newarray 0 d_B_makeTable_23 (by decide) ac_int rfl (fun U cA => va_nm_int) (nI_pos (by omega)) (by rw [nI_clamp (by omega)]; show w * 4 ≤ 536870912; omega) (by omega) (by rw [nI_clamp (by omega)]; omega) (fun q hq9 => ?_)
    rw [nI_clamp (show w < 2 ^ 31 by omega)] at *
    have hc := co_nw (kn := (100, w)) (dv := fun _ => .int 0) hc hq9 6
    obtain ⟨hf, hq0⟩ := xt_nw (kn := (100, w)) (dv := fun _ => .int 0) hf hq9 6
    have kq : (jm_new h q (100, w) (fun _ => .int 0)).1 q = some (100, w) := if_pos rfl
    refine jm_astore d_B_makeTable_25 (Nat.le_of_ble_eq_true rfl) ?_
    refine jm_iconstL (v := nI 0) d_B_makeTable_27 (by decide) ?_
    refine jm_istore d_B_makeTable_28 (Nat.le_of_ble_eq_true rfl) ?_
    refine lp_B_makeTable hd hw hz3 hz hz1 hz4 (ht hw256) hU hw256 hq0 (fun h ρ D hc hr hf h6 hq hi => ?_) w 0 (by omega) hc (fun _ _ => rfl) hf rl_eq kq (fun i hi => absurd hi (Nat.not_lt_zero _))
    have hT : TB h (rl ρ q 0) (.ref q) (nI w) t := Or.inr ⟨q, w, rfl, rfl, hw256, hq, rl_eq, hi⟩
    refine jm_aload_n d_B_makeTable_62 rfl ?_
    refine jm_aload d_B_makeTable_63 rfl ?_
    refine jm_putf d_B_makeTable_65 f_B_195 (hc.1 3 a (show a < sz 1 0 by omega)).1 rfl rfl ?_
    obtain ⟨hc, hf⟩ := co_t57 (co_rl (a := 0) hc h6) (xt_rl (a := 0) hf hq0) (show a < sz 1 0 by omega) hT
    refine jm_aload_n d_B_makeTable_68 rfl ?_
    refine jm_iload_n d_B_makeTable_69 rfl ?_
    refine cr_put 23 a _ d_B_makeTable_70 f_B_327 hc hf (show a < sz 1 0 by omega) rfl rfl rfl (by decide) (by decide) rfl rfl rfl (fun h hc hf => ?_)
    refine jm_aload_n d_B_makeTable_73 rfl ?_
    refine jm_dup d_B_makeTable_74 rfl ?_
    refine cr_get 27 0 d_B_makeTable_75 f_B_221 hc rfl rfl rfl rfl (v := .int (D 27 0)) (by show Value.int (mu (tbS D 57 58 a (nI w) t) 23 a r 27 0) = _; rw [mu_row (by decide), tbS_row (by decide) (by decide)]) ?_
    refine jm_iconstL (v := 1) d_B_makeTable_78 (by decide) ?_
    refine jm_iadd d_B_makeTable_79 ?_
    refine cr_put 27 0 _ d_B_makeTable_80 f_B_221 hc hf rfl rfl rfl rfl (by decide) (by decide) rfl rfl rfl (fun h hc hf => ?_)
    have hc : co Γ h x L (rl ρ q 0) sz (mtC D a w r t) := hc
    have eE : ∀ j, j ≠ 32 → j ≠ 57 → j ≠ 58 → j ≠ 23 → j ≠ 27 → mtC D a w r t j = C j := fun j z1 z2 z3 z4 z5 => by rw [mtC, mu_row z5, mu_row z4, tbS_row z2 z3, hr j z1]
    have e57 : mtC D a w r t 57 a = nI w := by rw [mtC, mu_row (by decide), mu_row (by decide)]; simp [tbS]
    have e23 : mtC D a w r t 23 a = r := by rw [mtC, mu_row (by decide), mu_same]
    have hwE : cwC sz (mtC D a w r t) n a np cc := by
      have := hw
      unfold cwC N at this ⊢
      rw [eE 1 (by decide) (by decide) (by decide) (by decide) (by decide), eE 5 (by decide) (by decide) (by decide) (by decide) (by decide), eE 52 (by decide) (by decide) (by decide) (by decide) (by decide), eE 53 (by decide) (by decide) (by decide) (by decide) (by decide), eE 62 (by decide) (by decide) (by decide) (by decide) (by decide), eE 63 (by decide) (by decide) (by decide) (by decide) (by decide)]
      exact this
    have ptE : ptC sz (mtC D a w r t) a := by unfold ptC; rw [eE 10 (by decide) (by decide) (by decide) (by decide) (by decide), eE 11 (by decide) (by decide) (by decide) (by decide) (by decide)]; exact hpt
    have rtE : rootC (mtC D a w r t) a ↔ rootC C a := by unfold rootC; rw [eE 10 (by decide) (by decide) (by decide) (by decide) (by decide), eE 11 (by decide) (by decide) (by decide) (by decide) (by decide)]
    refine jm_aload_n d_B_makeTable_83 rfl ?_
    refine cr_callp (r := ("BargainTree$Agent", jm_F1, 18)) (As := []) d_B_makeTable_84 l_B_114 iw_A_isRoot ew_A_isRoot rfl nv_A_isRoot rfl (hc.1 3 a (show a < sz 1 0 by omega)).1 (Nat.le_of_ble_eq_true rfl) (by omega : 0 + 1 ≤ _) (k_A_isRoot (a := a) (by omega) (Or.inr ptE)) hc ?_
    refine jm_bz_eq 102 d_B_makeTable_87 (by decide) (fun hb87 => ?_) (fun hb87 => ?_)
    · have hbR : ¬ rootC C a := fun q => hb87 (rtE.mpr q)
      refine jm_aload_n d_B_makeTable_102 rfl ?_
      refine jm_aload_n d_B_makeTable_103 rfl ?_
      refine cr_call (r := ("BargainTree", jm_F0, 9)) (As := [_]) d_B_makeTable_104 l_B_198 iw_B_sendTable ew_B_sendTable rfl nv_B_sendTable rfl (hc.1 1 0 rfl).1 (Nat.le_of_ble_eq_true rfl) (by omega : 2 + 1 ≤ _) (by omega) (by omega) (k_B_sendTable (a := a) (nl := nl) (by omega) (by omega) (by rw [e57]; exact nI_m1 (by omega)) (by rw [eE 34 (by decide) (by decide) (by decide) (by decide) (by decide)]; exact hn20) hs20 h20) hc hf (fun X L' sz' C' q => by cases q.1) (fun v9 L' ρ' sz' C' h' hq hc hf _ => ?_)
      obtain ⟨e0, hq⟩ := hq
      cases e0
      rw [eE 16 (by decide) (by decide) (by decide) (by decide) (by decide), e57, e23] at hq
      have hQ : kL8 L L' ∧ ((C 16 a = -1 ∧ sz' = sz ∧ C' = mtC D a w r t) ∨ (C 16 a ≠ -1 ∧ sz' = lu sz 8 0 (nlS nl) ∧ C' = sndC (mtC D a w r t) nl 2 (nI a) (C 16 a) r (nI w) (fun i => mtC D a w r t 58 (256 * a + i)))) := by
        rcases hq with ⟨q1, q2, q3, q4⟩ | ⟨q1, q2, q3, q4⟩
        · rw [q2]; exact ⟨fun _ _ _ => rfl, Or.inl ⟨q1, q3, q4⟩⟩
        · exact ⟨q2, Or.inr ⟨q1, q3, q4⟩⟩
      exact jm_vret d_B_makeTable_107 rfl ⟨L', ρ', sz', C', ⟨rfl, Or.inr ⟨hw256, hQ.1, D, hr, Or.inr ⟨hbR, hQ.2⟩⟩⟩, hc, hf⟩
    · have hbR : rootC C a := rtE.mp hb87
      refine jm_aload_n d_B_makeTable_90 rfl ?_
      refine jm_aload_n d_B_makeTable_91 rfl ?_
      refine jm_iload_n d_B_makeTable_92 rfl ?_
      refine jm_callS (As := []) d_B_makeTable_93 l_B_330 sw_B_nothingTold nv_B_nothingTold rfl (Nat.le_of_ble_eq_true rfl) (by omega : 1 + 1 ≤ _) (by omega) (by omega) (k_B_nothingTold (by omega) hc) (fun v9 h' hq' => ?_) (fun X h' hq' => by obtain ⟨_, _, e0, _⟩ := hq'; cases e0)
      obtain ⟨vq, ρ', e0, hV, hv0, hc, hf'⟩ := hq'
      cases e0
      have hf := hf.tr hf'
      refine jm_callV (r := ("BargainTree", jm_F0, 9)) (As := [_, _, _]) d_B_makeTable_96 l_B_287 iw_B_choose ew_B_choose rfl nv_B_choose rfl (hc.1 1 0 rfl).1 (Nat.le_of_ble_eq_true rfl) (by omega : 3 + 1 ≤ _) (by omega) (by omega) (k_B_choose (n := n) (np := np) (cc := cc) (nl := nl) (z := z) (nv := fun _ => 0) (g := fun _ => -1) (by omega) hc hwE (by rw [eE 3 (by decide) (by decide) (by decide) (by decide) (by decide)]; exact hz) hz1 hz4 (fun u hu => ⟨⟨by unfold gUp upn; rw [if_pos rfl, if_pos rfl], by unfold upn; rw [if_pos rfl]; omega⟩, fun p hp hup => absurd (show upC C a p by unfold upC at hup ⊢; rw [eE 62 (by decide) (by decide) (by decide) (by decide) (by decide), eE 63 (by decide) (by decide) (by decide) (by decide) (by decide), eE 17 (by decide) (by decide) (by decide) (by decide) (by decide)] at hup; exact hup) (hroot hbR p hp)⟩) hcc (by rw [eE 34 (by decide) (by decide) (by decide) (by decide) (by decide)]; exact hn20) hs20 h20 (by unfold ptC; rw [eE 10 (by decide) (by decide) (by decide) (by decide) (by decide), eE 11 (by decide) (by decide) (by decide) (by decide) (by decide)]; exact hpt) hV) (fun v9 h' hq' => ?_) (fun X h' hq' => by obtain ⟨_, _, _, _, ⟨e0, _⟩, _⟩ := hq'; cases e0)
      obtain ⟨L', ρ2, sz', C', ⟨e0, hk8, hQ⟩, hc2, hf2⟩ := hq'
      cases e0
      refine jm_goto 107 d_B_makeTable_99 (by decide) ?_
      exact jm_vret d_B_makeTable_107 rfl ⟨L', ρ2, sz', C', ⟨rfl, Or.inr ⟨hw256, hk8, D, hr, Or.inl ⟨hbR, hQ⟩⟩⟩, hc2, hf.tr hf2⟩
  · refine jm_aload_n d_B_makeTable_16 rfl ?_
    refine jm_iconstL (v := 1) d_B_makeTable_17 (by decide) ?_
    refine cr_put 15 a 1 d_B_makeTable_18 f_B_230 hc hf (show a < sz 1 0 by omega) rfl rfl rfl (by decide) (by decide) rfl rfl rfl (fun h hc hf => ?_)
    exact jm_vret d_B_makeTable_21 rfl ⟨_, _, _, _, ⟨rfl, Or.inl ⟨by
    rcases Nat.lt_or_ge 256 w with q | q
    · exact q
    · exact absurd (nI_le (b := 256) q (by omega)) hb13, rfl, rfl, rfl⟩⟩, hc, hf⟩
end
