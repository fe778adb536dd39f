/-! CLASS AND REFERENCE: start, the walk. Written by wip/whole/gen/p85.py -/
section
variable {Γ : jm_G} {d x : Nat} {L0 : Nat → Nat → Nat} {U : mS} {h0 : jm_H} {ρ0 : Nat → Nat} {n np T : Nat}
theorem rk_keep {j : Nat} (h1 : j = 10 ∨ j = 11 ∨ j = 1) : ∀ k, rkF U n np k j = U j
  | 0 => rfl
  | k + 1 => by
    have ih := rk_keep h1 k
    rw [rkF]
    split
    · rw [hd_keep (by omega) (by omega) (by omega) (by omega) (by omega), rt0, mu_row (by omega), mu_row (by omega), mu_row (by omega), mu_row (by omega)]; exact ih
    · exact ih
/-- what the reference asks at the roots before the k-th agent -/
def rkH (U : mS) (n np k : Nat) : Prop := ∀ a, a < k → vrt (rkF U n np a) n a → ∃ nl, hdK (rt0 (rkF U n np a) a (-1) 0) n a np nl
def rkQ (U : mS) (n np : Nat) : Prop := (∀ a, a ≤ n → rkF U n np a 1 0 = nI n) ∧ (∀ a, a < n → nn (rkF U n np a) 10 a 7) ∧ ∀ a, a < n → rkF U n np a 11 (N (rkF U n np a) 10 a) = nI a → ∃ nl, hdK (rt0 (rkF U n np a) a (-1) 0) n a np nl
theorem rkQ_of {C : mS} {nl : Nat} {sz : Nat → Nat → Nat} {A : Rl} {dd : Nat → Nat} (W : WI (rkF U n np n) C n np nl T sz A dd noH 8 8) (hK : rkH U n np n) : rkQ U n np := by
  have n8 := W.2.1.1.2.1
  have k1 := fun k => rk_keep (U := U) (n := n) (np := np) (j := 1) (Or.inr (Or.inr rfl)) k
  have k10 := fun k => rk_keep (U := U) (n := n) (np := np) (j := 10) (Or.inl rfl) k
  refine ⟨fun a _ => ?_, fun a ha => ?_, fun a ha e => hK a ha ⟨ha, e⟩⟩
  · have := W.2.1.1.1
    rw [k1] at this ⊢; exact this
  · obtain ⟨q, r, q1, q2, q3, -⟩ := W.2.2.2.1.2.2.2.2.2.1 a ha
    unfold nn N
    rw [k10] at q3 ⊢
    rw [q3, nI_clamp (by omega)]; exact ⟨rfl, by omega⟩
theorem lp_B_start (hd : 5 ≤ d) (h8 : n ≤ 8) : ∀ j k, k + j = n → ∀ {h : jm_H} {ρ : Nat → Nat} {L sz : Nat → Nat → Nat} {C : mS} {nl rc rs : Nat} {A : Rl} {dd : Nat → Nat}, 12 * j ≤ rc → 315 * j ≤ rs → co Γ h x L ρ sz C → xt ρ0 h0 ρ h → WI (rkF U n np k) C n np nl T sz A dd noH 8 8 → (∀ y, vhd (rkF U n np k) n y → y < k) → (∀ y, k ≤ y → rkF U n np k 17 y = 0) → rkH U n np k →
      jm_W Γ m_B_start d rc rs (fun oc h' => ∃ L' ρ' sz' C', (∃ nl' A dd, oc = .inl (some (.int (nI (ctR (rtB U) n)))) ∧ WI (rkF U n np n) C' n np nl' T sz' A dd noH 8 8 ∧ rkH U n np n) ∧ co Γ h' x L' ρ' sz' C' ∧ xt ρ0 h0 ρ' h') 37 [some (.ref x), some (.int (nI (ctR (rtB U) k))), some (.int (nI k))] [] h := by
  intro j
  induction j with
  | zero =>
    intro k hk h ρ L sz C nl rc rs A dd hrc hrs hc hf W hv h17 hK
    have ek : k = n := by omega
    have e1 := W.2.2.1.1.1
    refine jm_iload_n d_B_start_37 rfl ?_
    refine jm_aload_n d_B_start_38 rfl ?_
    refine cr_get 1 0 d_B_start_39 f_B_42 hc rfl rfl rfl rfl (v := .int (C 1 0)) rfl ?_
    rw [e1]
    refine jm_icmp_ge 102 d_B_start_42 (by decide) (fun hb42 => ?_) (fun hb42 => ?_)
    · refine jm_iload_n d_B_start_102 rfl ?_
      exact jm_iret d_B_start_103 rfl ⟨L, ρ, sz, C, ⟨nl, A, dd, by rw [ek], by rw [← ek]; exact (ek ▸ W), ek ▸ hK⟩, hc, hf⟩
    · exact absurd (nI_le (by omega) (by omega)) hb42
  | succ j ih =>
    intro k hk h ρ L sz C nl rc rs A dd hrc hrs hc hf W hv h17 hK
    have e1 := W.2.2.1.1.1
    have hs1 : sz 1 0 = n := W.2.2.1.1.2.2.2.2.2.1
    have hkn : k < n := by omega
    have hks : k < sz 1 0 := by omega
    obtain ⟨rtk, ptk⟩ := rt_C W.2.2.1 W.2.2.2.1.2.2.2.2.2 hkn h8
    have u10 := rk_keep (U := U) (n := n) (np := np) (j := 10) (Or.inl rfl) k
    have u11 := rk_keep (U := U) (n := n) (np := np) (j := 11) (Or.inr (Or.inl rfl)) k
    have rtU : rtB U k = true ↔ vrt (rkF U n np k) n k := by
      rw [decide_eq_true_iff]
      obtain ⟨q, r, k1, k2, k3, -⟩ := W.2.2.2.1.2.2.2.2.2.1 k hkn
      unfold vrt N
      rw [u11]
      rw [u10] at k3 ⊢
      exact ⟨fun z => ⟨hkn, z.2⟩, fun z => ⟨by rw [k3]; exact nI_m1 (by omega), z.2⟩⟩
    refine jm_iload_n d_B_start_37 rfl ?_
    refine jm_aload_n d_B_start_38 rfl ?_
    refine cr_get 1 0 d_B_start_39 f_B_42 hc rfl rfl rfl rfl (v := .int (C 1 0)) rfl ?_
    rw [e1]
    refine jm_icmp_ge 102 d_B_start_42 (by decide) (fun hb42 => ?_) (fun hb42 => ?_)
    · exact absurd hb42 (nI_ge (by omega) (by omega))
    · refine jm_aload_n d_B_start_45 rfl ?_
      refine cr_get 78 0 d_B_start_46 f_B_11 hc rfl rfl rfl rfl (v := .ref (L 0 0)) rfl ?_
      refine jm_iload_n d_B_start_49 rfl ?_
      refine cr_ald 3 70 k (e := k) d_B_start_50 (by decide) rfl hc (show k < sz 1 0 by omega) rfl rfl rfl rfl (by have := hc.B.1; omega) (by decide) (v := .ref (L 1 k)) rfl ?_
      refine cr_callp (r := ("BargainTree$Agent", jm_F1, 18)) (As := []) d_B_start_51 l_B_114 iw_A_isRoot ew_A_isRoot rfl nv_A_isRoot rfl (hc.1 3 k (show k < sz 1 0 by omega)).1 (Nat.le_of_ble_eq_true rfl) (by omega : 0 + 1 ≤ _) (k_A_isRoot (a := k) (by omega) (Or.inr ptk)) hc ?_
      first | refine jm_bz_eq 96 d_B_start_54 (by decide) (fun hb54 => ?_) (fun hb54 => ?_) | refine jm_if_eq 96 d_B_start_54 (by decide) (fun hb54 => ?_) (fun hb54 => ?_)
      · refine jm_iincL (v := nI (k + 1)) d_B_start_96 rfl (by rw [nI_succ]; rfl) ?_
        refine jm_goto 37 d_B_start_99 (by decide) ?_
        have hnr : ¬ vrt (rkF U n np k) n k := fun q => hb54 (rtk.mpr q)
        have estep : rkF U n np (k + 1) = rkF U n np k := by rw [rkF, if_neg (fun q => hnr ⟨hkn, q⟩)]
        have ect : ctR (rtB U) (k + 1) = ctR (rtB U) k := by rw [ctR, if_neg (fun q => hnr (rtU.mp q))]
        rw [← ect]
        refine ih (k + 1) (by omega) (by omega) (by omega) hc hf (by rw [estep]; exact W) (fun y hy => ?_) (fun y hy => ?_) (fun a ha hr => (Nat.lt_or_ge a k).elim (fun q => hK a q hr) (fun q => absurd (show vrt (rkF U n np k) n k by rw [show a = k by omega] at hr; exact hr) hnr))
        · rw [estep] at hy; have := hv y hy; omega
        · rw [estep]; exact h17 y (by omega)
      · refine jm_iincL (v := nI (ctR (rtB U) k + 1)) d_B_start_57 rfl (by rw [nI_succ]; rfl) ?_
        refine jm_aload_n d_B_start_60 rfl ?_
        refine cr_get 78 0 d_B_start_61 f_B_11 hc rfl rfl rfl rfl (v := .ref (L 0 0)) rfl ?_
        refine jm_iload_n d_B_start_64 rfl ?_
        refine cr_ald 3 70 k (e := k) d_B_start_65 (by decide) rfl hc (show k < sz 1 0 by omega) rfl rfl rfl rfl (by have := hc.B.1; omega) (by decide) (v := .ref (L 1 k)) rfl ?_
        refine jm_iconstL (v := 1) d_B_start_66 (by decide) ?_
        refine jm_iload_n d_B_start_67 rfl ?_
        refine jm_ishl d_B_start_68 ?_
        refine cr_put 18 k _ d_B_start_69 f_B_118 hc hf (show k < sz 1 0 by omega) rfl rfl rfl (by decide) (by decide) rfl rfl rfl (fun h hc hf => ?_)
        refine jm_aload_n d_B_start_72 rfl ?_
        refine jm_aload_n d_B_start_73 rfl ?_
        refine cr_get 78 0 d_B_start_74 f_B_11 hc rfl rfl rfl rfl (v := .ref (L 0 0)) rfl ?_
        refine jm_iload_n d_B_start_77 rfl ?_
        refine cr_ald 3 70 k (e := k) d_B_start_78 (by decide) rfl hc (show k < sz 1 0 by omega) rfl rfl rfl rfl (by have := hc.B.1; omega) (by decide) (v := .ref (L 1 k)) rfl ?_
        have hrt := rtk.mp hb54
        obtain ⟨dd', W1⟩ := root_W W hkn (fun q => by have := hv k q; omega) hrt (h17 k (Nat.le_refl _))
        have hK' : rkH U n np (k + 1) := fun a ha hr => by
          rcases Nat.lt_or_ge a k with q | q
          · exact hK a q hr
          · rw [show a = k by omega]; exact ⟨_, hdK_of W1 hkn⟩
        have estep : rkF U n np (k + 1) = hdC (rt0 (rkF U n np k) k (-1) 0) k n np := by rw [rkF, if_pos hrt.2]
        have ect : ctR (rtB U) (k + 1) = ctR (rtB U) k + 1 := by rw [ctR, if_pos (rtU.mpr hrt)]
        rw [← ect]
        refine cr_call (r := ("BargainTree", jm_F0, 9)) (As := [_]) d_B_start_79 l_B_121 iw_B_hold ew_B_hold rfl nv_B_hold rfl (hc.1 1 0 rfl).1 (Nat.le_of_ble_eq_true rfl) (by omega : 3 + 1 ≤ _) (by omega) (by omega) (kw_B_hold (by omega) hkn W1) hc hf (fun X L' sz' C' q => by rcases q.2 with ⟨h0, _⟩ | ⟨h0, _⟩ <;> cases h0) (fun v L2 ρ2 sz2 C2 h2 hq2 hc2 hf2 _ => ?_)
        obtain ⟨hk2, hq2⟩ := hq2
        rcases hq2 with ⟨e0, nl2, W2⟩ | ⟨e0, V, nl2, eV, W2, hP⟩
        · cases e0
          refine jm_if_eq 96 d_B_start_82 (by decide) (fun _ => ?_) (fun hb9 => absurd rfl hb9)
          refine jm_iincL (v := nI (k + 1)) d_B_start_96 rfl (by rw [nI_succ]; rfl) ?_
          refine jm_goto 37 d_B_start_99 (by decide) ?_
          refine ih (k + 1) (by omega) (by omega) (by omega) hc2 hf2 (by rw [estep]; exact W2) (fun y hy => ?_) (fun y hy => ?_) hK'
          · rw [estep] at hy
            have e13 : hdC (rt0 (rkF U n np k) k (-1) 0) k n np 13 = (rt0 (rkF U n np k) k (-1) 0) 13 := hd_keep (by decide) (by decide) (by decide) (by decide) (by decide)
            have hy2 := hy.2
            rw [e13] at hy2
            by_cases z : y = k
            · omega
            · have : (rt0 (rkF U n np k) k (-1) 0) 13 y = rkF U n np k 13 y := by simp [rt0, mu, z]
              rw [this] at hy2
              have := hv y ⟨hy.1, hy2⟩; omega
          · rw [estep]
            have e17 : hdC (rt0 (rkF U n np k) k (-1) 0) k n np 17 = (rt0 (rkF U n np k) k (-1) 0) 17 := hd_keep (by decide) (by decide) (by decide) (by decide) (by decide)
            rw [e17]
            have z : y ≠ k := by omega
            have : (rt0 (rkF U n np k) k (-1) 0) 17 y = rkF U n np k 17 y := by simp [rt0, mu, z]
            rw [this]; exact h17 y (by omega)
        · cases e0
          refine jm_if_eq 96 d_B_start_82 (by decide) (fun hb9 => absurd hb9 (by decide)) (fun _ => ?_)
          have hs2 : sz2 1 0 = n := W2.2.2.1.1.2.2.2.2.2.1
          refine jm_aload_n d_B_start_85 rfl ?_
          refine jm_aload_n d_B_start_86 rfl ?_
          refine cr_get 78 0 d_B_start_87 f_B_11 hc2 rfl rfl rfl rfl (v := .ref (L2 0 0)) rfl ?_
          refine jm_iload_n d_B_start_90 rfl ?_
          refine cr_ald 3 70 k (e := k) d_B_start_91 (by decide) rfl hc2 (show k < sz2 1 0 by omega) rfl rfl rfl rfl (by omega) (by decide) (v := .ref (L2 1 k)) rfl ?_
          refine jm_iconstL (v := 1) d_B_start_92 (by decide) ?_
          refine cr_call (r := ("BargainTree", jm_F0, 9)) (As := [_, _]) d_B_start_93 l_B_125 iw_B_makeTable ew_B_makeTable rfl nv_B_makeTable rfl (hc2.1 1 0 rfl).1 (Nat.le_of_ble_eq_true rfl) (by omega : 4 + 1 ≤ _) (by omega) (by omega) (kw_B_makeTable (by omega) (WI_ex k W2) hP) hc2 hf2 (fun X L' sz' C' q => by cases q.1) (fun v L3 ρ3 sz3 C3 h3 hq3 hc3 hf3 _ => ?_)
          obtain ⟨e0, hk3, nl3, W3⟩ := hq3
          cases e0
          rw [← eV] at W3
          refine jm_iincL (v := nI (k + 1)) d_B_start_96 rfl (by rw [nI_succ]; rfl) ?_
          refine jm_goto 37 d_B_start_99 (by decide) ?_
          refine ih (k + 1) (by omega) (by omega) (by omega) hc3 hf3 (by rw [estep]; exact W3) (fun y hy => ?_) (fun y hy => ?_) hK'
          · rw [estep] at hy
            have e13 : hdC (rt0 (rkF U n np k) k (-1) 0) k n np 13 = (rt0 (rkF U n np k) k (-1) 0) 13 := hd_keep (by decide) (by decide) (by decide) (by decide) (by decide)
            have hy2 := hy.2
            rw [e13] at hy2
            by_cases z : y = k
            · omega
            · have : (rt0 (rkF U n np k) k (-1) 0) 13 y = rkF U n np k 13 y := by simp [rt0, mu, z]
              rw [this] at hy2
              have := hv y ⟨hy.1, hy2⟩; omega
          · rw [estep]
            have e17 : hdC (rt0 (rkF U n np k) k (-1) 0) k n np 17 = (rt0 (rkF U n np k) k (-1) 0) 17 := hd_keep (by decide) (by decide) (by decide) (by decide) (by decide)
            rw [e17]
            have z : y ≠ k := by omega
            have : (rt0 (rkF U n np k) k (-1) 0) 17 y = rkF U n np k 17 y := by simp [rt0, mu, z]
            rw [this]; exact h17 y (by omega)
end
section
variable {Γ : jm_G} {d x : Nat} {L sz : Nat → Nat → Nat} {S C : mS} {h : jm_H} {ρ : Nat → Nat} {n np nl T : Nat}
theorem k_B_start (hd : 8 ≤ d) (hI : INV S C n np nl T sz) (hT : 1 ≤ T) : cM Γ m_B_start d x [.ref x] L sz C 104 2544 (fun oc L' sz' C' => (thStart S = 1 ∧ oc = .inr 1 ∧ L' = L ∧ sz' = sz ∧ C' = C) ∨ (thStart S = 0 ∧ ∃ nl' A dd, oc = .inl (some (.int (nI (spN (st0 S) n (MM (st0 S) n) n)))) ∧ WI (rkF (spF (st0 S) n (MM (st0 S) n) n) n np n) C' n np nl' T sz' A dd noH 8 8 ∧ rkQ (spF (st0 S) n (MM (st0 S) n) n) n np)) := by
  intro h ρ hc
  have hf : xt ρ h ρ h := xt.rf
  obtain ⟨hS1, h8, hS5, h12, hS34, h20, hS2, hn, hp, hn34, h60, hs, hs6, hs20⟩ := inv_sc hI
  refine jm_entry (by decide +kernel) (List.forall_mem_cons.mpr ⟨rfl, fun _ h => nomatch h⟩) (Nat.le_of_ble_eq_true rfl) ?_
  show jm_W _ _ _ _ _ _ 0 [some (.ref x), none, none] [] _
  refine jm_aload_n d_B_start_0 rfl ?_
  refine cr_get 60 0 d_B_start_1 f_B_31 hc rfl rfl rfl rfl (v := .int (C 60 0)) rfl ?_
  first | refine jm_bz_eq 14 d_B_start_4 (by decide) (fun hb4 => ?_) (fun hb4 => ?_) | refine jm_if_eq 14 d_B_start_4 (by decide) (fun hb4 => ?_) (fun hb4 => ?_)
  · exact jm_throw (tx := "started already, or no agent") d_B_start_14 d_B_start_17 d_B_start_18 d_B_start_20 d_B_start_23 x_1 (by decide +kernel) rfl (by omega) (by omega) (by simp; omega) (by decide) (Nat.le_of_ble_eq_true rfl) ⟨L, ρ, sz, C, Or.inl ⟨by unfold thStart; rw [if_pos (by first | exact Or.inl (fun z => by rw [h60, if_pos z] at hb4; exact absurd hb4 (by decide)) | exact Or.inr (by rw [hS1, ← hn]; exact Decidable.not_not.mp hb11))], rfl, rfl, rfl, rfl⟩, hc, hf⟩
  · refine jm_aload_n d_B_start_7 rfl ?_
    refine cr_get 1 0 d_B_start_8 f_B_42 hc rfl rfl rfl rfl (v := .int (C 1 0)) rfl ?_
    first | refine jm_bz_ne 24 d_B_start_11 (by decide) (fun hb11 => ?_) (fun hb11 => ?_) | refine jm_if_ne 24 d_B_start_11 (by decide) (fun hb11 => ?_) (fun hb11 => ?_)
    · have s2 : S 2 0 = 0 := Decidable.byContradiction (fun z => hb4 (by rw [h60, if_neg z]))
      have n0 : S 1 0 ≠ 0 := by rw [hS1, ← hn]; exact hb11
      have th0 : thStart S = 0 := by unfold thStart; rw [if_neg (fun z => z.elim (fun y => y s2) n0)]
      have pre := inv_pre hI s2
      have r0 : ∀ j, j ≠ 0 → j ≠ 2 → st0 S j = S j := fun j q1 q2 => by rw [st0, mu_row q2, mu_row q1]
      have h9 : ∀ a, a < 8 → ∃ m, m < 256 ∧ (st0 S) 9 a = nI m := by rw [r0 9 (by decide) (by decide)]; exact hI.1.2.2.2.2.2.2.2.1
      have hN : ∀ x y, vnb (st0 S) n x y → vnb (st0 S) n y x ∧ x ≠ y ∧ y < n := by unfold vnb; rw [r0 9 (by decide) (by decide)]; exact hI.1.2.2.2.2.2.2.2.2.1
      have h10 : ∀ i, i < 8 → (st0 S) 10 i = -1 := fun i hi => by rw [r0 10 (by decide) (by decide)]; exact (pre_rows pre hi).1
      refine jm_aload_n d_B_start_24 rfl ?_
      refine jm_iconstL (v := 0) d_B_start_25 (by decide) ?_
      refine cr_put 60 0 0 d_B_start_26 f_B_31 hc hf rfl rfl rfl rfl (by decide) (by decide) rfl rfl rfl (fun h hc hf => ?_)
      refine jm_aload_n d_B_start_29 rfl ?_
      refine cr_call (r := ("BargainTree", jm_F0, 9)) (As := []) d_B_start_30 l_B_111 iw_B_findParts ew_B_findParts rfl nv_B_findParts rfl (hc.1 1 0 rfl).1 (Nat.le_of_ble_eq_true rfl) (by omega : 3 + 1 ≤ _) (by omega) (by omega) (k_B_findParts (S := st0 S) (by omega) h8 h9 hN h10 (by rw [mu_row (by decide)]; exact hn) hs (fun i hi => by rw [mu_row (by decide), r0 9 (by decide) (by decide)]; exact (hI.2.1.2.1 i hi).2.1) (fun i hi => by rw [mu_row (by decide)]; exact (inv_pt hI).2.1 s2 i hi) pre.2.2.2.2.2.2) hc hf (fun X L' sz' C' q => by cases q.1) (fun v L2 ρ2 sz2 C2 h2 hq2 hc2 hf2 _ => ?_)
      obtain ⟨e0, hk2, F⟩ := hq2
      cases e0
      obtain ⟨W, hv, h17⟩ := start_W hI s2 hT F
      have ecn := cnt_all h8 h9 hN h10 n (Nat.le_refl _)
      refine jm_iconstL (v := nI 0) d_B_start_33 (by decide) ?_
      refine jm_istore_n d_B_start_34 (Nat.le_of_ble_eq_true rfl) ?_
      refine jm_iconstL (v := nI 0) d_B_start_35 (by decide) ?_
      refine jm_istore_n d_B_start_36 (Nat.le_of_ble_eq_true rfl) ?_
      refine jm_W.mono (fun oc h' hq => ?_) (lp_B_start (U := spF (st0 S) n (MM (st0 S) n) n) (np := np) (by omega) h8 n 0 (by omega) (by omega) (by omega) hc2 hf2 W (fun y q => absurd q (hv y)) (fun y _ => h17 y) (fun a ha => absurd ha (Nat.not_lt_zero _)))
      obtain ⟨L', ρ', sz', C', ⟨nl', A, dd, e0, W', hK'⟩, hc', hf'⟩ := hq
      exact ⟨L', ρ', sz', C', Or.inr ⟨th0, nl', A, dd, by rw [e0, ecn], W', rkQ_of W' hK'⟩, hc', hf'⟩
    · exact jm_throw (tx := "started already, or no agent") d_B_start_14 d_B_start_17 d_B_start_18 d_B_start_20 d_B_start_23 x_1 (by decide +kernel) rfl (by omega) (by omega) (by simp; omega) (by decide) (Nat.le_of_ble_eq_true rfl) ⟨L, ρ, sz, C, Or.inl ⟨by unfold thStart; rw [if_pos (by first | exact Or.inl (fun z => by rw [h60, if_pos z] at hb4; exact absurd hb4 (by decide)) | exact Or.inr (by rw [hS1, ← hn]; exact Decidable.not_not.mp hb11))], rfl, rfl, rfl, rfl⟩, hc, hf⟩
end
