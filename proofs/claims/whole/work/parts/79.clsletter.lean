/-! CLASS AND REFERENCE: letter. Written by wip/whole/gen/p79.py -/
section
variable {Γ : jm_G} {d x : Nat} {L sz : Nat → Nat → Nat} {S C : mS} {h : jm_H} {ρ : Nat → Nat} {n np nl T : Nat} {A : Rl} {dd : Nat → Nat} {hh : Nat → Prop}
theorem dup_W {q : Nat} (W : WI S C n np nl T sz A dd noH 8 8) (hq : q < nl) (h20 : nl < 20) : WI (mu (cpL (mu S 0 0 0) q nl) 34 0 (nI (nl + 1))) (mu (ltS C nl (C 35 q) (C 36 q) (C 37 q) (C 38 q) (C 67 q) (fun i => C 68 (256 * q + i))) 34 0 (nI (nl + 1))) n np (nl + 1) T (lu sz 8 0 (nl + 1)) A dd noH 8 8 := by
  obtain ⟨w1, B, M, IXh, LVs, CDh, Z5h⟩ := id W
  obtain ⟨l1, l2, l3, l4, l5, l6, l7⟩ := M.2.2.2.2.2.2.2.2.2 q hq
  obtain ⟨P, Pc⟩ := PS_dup (S := S) h20 hq
  have LVq := LVs q hq
  have w256 : S 35 q = 2 → (S 39 q).toNatClampNeg ≤ 256 := fun e => by
    obtain ⟨f, t, -, -, -, -, hv⟩ := LVq
    rcases hv with ⟨k1, -⟩ | ⟨k1, -⟩ | ⟨-, -, -, -, k2, k3, -⟩ | ⟨k1, -⟩
    · rw [e] at k1; exact absurd k1 (by decide)
    · rw [e] at k1; exact absurd k1 (by decide)
    · rw [k2, nI_clamp (by omega)]; exact k3
    · rw [e] at k1; exact absurd k1 (by decide)
  have r := post_W (wl := C 67 q) (f := fun i => C 68 (256 * q + i)) W P (fun _ => LV_cong (fun i hi => (Pc i hi).symm) LVq) (fun _ => l5) (fun _ e => ⟨w256 e, fun i hi => by rw [Pc i (by have := w256 e; omega)]; exact l6 e i hi⟩) (fun _ e i hi => by rw [Pc i (by omega)]; exact l7 e i hi)
  have e1 : nlS nl = nl + 1 := if_pos h20
  rw [e1] at r
  have e2 : sndC C nl (S 35 q) (S 36 q) (S 37 q) (S 38 q) (C 67 q) (fun i => C 68 (256 * q + i)) = mu (ltS C nl (C 35 q) (C 36 q) (C 37 q) (C 38 q) (C 67 q) (fun i => C 68 (256 * q + i))) 34 0 (nI (nl + 1)) := by
    unfold sndC; rw [if_pos h20, l1, l2, l3, l4]
  rw [e2] at r
  exact r
theorem k_B_letter (hd : 8 ≤ d) (hE : eInj Γ) (hn : C 34 0 = nI nl) (hs : sz 8 0 = nl) (h20 : nl ≤ 20) (hSn : S 34 0 = nI nl) (hW : 0 < nl → ∃ A dd, WI S C n np nl T sz A dd noH 8 8) {k y : Int32} : cM Γ m_B_letter d x [.ref x, .int k, .int y] L sz C 13 320 (fun oc L' sz' C' => (thLet S k y = 1 ∧ oc = .inr 0 ∧ L' = L ∧ sz' = sz ∧ C' = C) ∨ (thLet S k y = 2 ∧ oc = .inr 2 ∧ L' = L ∧ sz' = sz ∧ C' = C) ∨ (thLet S k y = 3 ∧ oc = .inr 1 ∧ L' = L ∧ sz' = sz ∧ C' = C) ∨ (thLet S k y = 0 ∧ kL L L' ∧ ∃ q, q < nl ∧ k = nI q ∧ ∃ S' nl' A dd, oc = .inl (some (.int (nI nl'))) ∧ WI S' C' n np nl' T sz' A dd noH 8 8 ∧ ((y = 2 ∧ nl < 20 ∧ S' = mu (cpL (mu S 0 0 0) q nl) 34 0 (nI (nl + 1))) ∨ (y = 1 ∧ S' = dl0 S q nl) ∨ (y = 0 ∧ S' = dvS (dl0 S q nl) n np (N S 37 q) (N S 36 q))))) := by
  intro h ρ hc
  have hf : xt ρ h ρ h := xt.rf
  refine jm_entry (by decide +kernel) (List.forall_mem_cons.mpr ⟨rfl, List.forall_mem_cons.mpr ⟨rfl, List.forall_mem_cons.mpr ⟨rfl, fun _ h => nomatch h⟩⟩⟩) (Nat.le_of_ble_eq_true rfl) ?_
  show jm_W _ _ _ _ _ _ 0 [some (.ref x), some (.int k), some (.int y), none] [] _
  refine jm_iload_n d_B_letter_0 rfl ?_
  refine jm_if_lt 9 d_B_letter_1 (by decide) (fun hb1 => ?_) (fun hb1 => ?_)
  · exact jm_throw (tx := "no such action") d_B_letter_9 d_B_letter_12 d_B_letter_13 d_B_letter_15 d_B_letter_18 x_0 (by decide +kernel) rfl (by omega) (by omega) (by simp; omega) (by decide) (Nat.le_of_ble_eq_true rfl) ⟨L, ρ, sz, C, Or.inl ⟨by unfold thLet; rw [if_pos (by first | exact fun z => absurd z.1 (Int32.not_le.mpr hb1) | exact fun z => hb6 z.2)], rfl, rfl, rfl, rfl⟩, hc, hf⟩
  · refine jm_iload_n d_B_letter_4 rfl ?_
    refine jm_iconstL (v := 2) d_B_letter_5 (by decide) ?_
    refine jm_icmp_le 19 d_B_letter_6 (by decide) (fun hb6 => ?_) (fun hb6 => ?_)
    · refine jm_aload_n d_B_letter_19 rfl ?_
      refine jm_iload_n d_B_letter_20 rfl ?_
      refine cr_callp (r := ("BargainTree", jm_F0, 9)) (As := [_]) d_B_letter_21 l_B_131 iw_B_isLetter ew_B_isLetter rfl nv_B_isLetter rfl (hc.1 1 0 rfl).1 (Nat.le_of_ble_eq_true rfl) (by omega : 0 + 1 ≤ _) (k_B_isLetter _) hc ?_
      first | refine jm_bz_ne 37 d_B_letter_24 (by decide) (fun hb24 => ?_) (fun hb24 => ?_) | refine jm_if_ne 37 d_B_letter_24 (by decide) (fun hb24 => ?_) (fun hb24 => ?_)
      · refine jm_iload_n d_B_letter_37 rfl ?_
        refine jm_iconstL (v := 2) d_B_letter_38 (by decide) ?_
        refine jm_icmp_ne 61 d_B_letter_39 (by decide) (fun hb39 => ?_) (fun hb39 => ?_)
        · have hy : 0 ≤ y ∧ y ≤ 2 := ⟨Int32.not_lt.mp hb1, hb6⟩
          have hor : ¬ (y = 2 ∧ C 34 0 = 20) := by first | exact fun z => hb39 z.1 | exact fun z => hb48 z.2
          obtain ⟨q, hq, rfl⟩ := ltC_ix hn h20 hb24
          have hlt : 0 ≤ nI q ∧ nI q ≤ S 34 0 - 1 := by rw [hSn]; exact ⟨nI_pos' (by omega), (le_pred h20 (nI_pos' (by omega))).mpr (nI_lt hq (by omega))⟩
          have hor' : ¬ (y = 2 ∧ S 34 0 = 20) := by rw [hSn, ← hn]; exact hor
          have tl : thLet S (nI q) y = 0 := by unfold thLet; rw [if_neg (not_not_intro hy), if_neg (not_not_intro hlt), if_neg hor']
          obtain ⟨A, dd, W⟩ := hW (by omega)
          have hLq := hc.2.2.2.2.1 q (by omega)
          refine jm_aload_n d_B_letter_61 rfl ?_
          refine cr_get 80 0 d_B_letter_62 f_B_23 hc rfl rfl rfl rfl (v := .ref (L 0 2)) rfl ?_
          refine jm_iload_n d_B_letter_65 rfl ?_
          refine cr_ald 5 77 q (e := q) d_B_letter_66 (by decide) rfl hc (show q < sz 8 0 by omega) rfl rfl rfl rfl (by have := hc.B.2.2.1; omega) (by decide) (v := .ref (L 8 q)) rfl ?_
          refine jm_astore_n d_B_letter_67 (Nat.le_of_ble_eq_true rfl) ?_
          refine jm_iload_n d_B_letter_68 rfl ?_
          refine jm_iconstL (v := 2) d_B_letter_69 (by decide) ?_
          refine jm_icmp_ne 98 d_B_letter_70 (by decide) (fun hb70 => ?_) (fun hb70 => ?_)
          · refine jm_aload_n d_B_letter_98 rfl ?_
            refine jm_iload_n d_B_letter_99 rfl ?_
            refine cr_call (r := ("BargainTree", jm_F0, 9)) (As := [_]) d_B_letter_100 l_B_144 iw_B_takeOut ew_B_takeOut rfl nv_B_takeOut rfl (hc.1 1 0 rfl).1 (Nat.le_of_ble_eq_true rfl) (by omega : 0 + 1 ≤ _) (Nat.zero_le _) (Nat.zero_le _) (k_B_takeOut hn hs h20 hq) hc hf (fun X L' sz' C' q => by cases q.1) (fun v L2 ρ2 sz2 C2 h2 hq2 hc2 hf2 hx2 => ?_)
            obtain ⟨e0, hk2, eS2, eC2⟩ := hq2
            cases e0
            obtain ⟨W2, LV2⟩ := take_W W hq
            rw [← eS2, ← eC2] at W2
            have hL2 := LET_xt hLq hx2
            refine jm_iload_n d_B_letter_103 rfl ?_
            refine jm_iconstL (v := 1) d_B_letter_104 (by decide) ?_
            refine jm_icmp_eq 113 d_B_letter_105 (by decide) (fun hb105 => ?_) (fun hb105 => ?_)
            · refine jm_aload_n d_B_letter_113 rfl ?_
              refine cr_get 34 0 d_B_letter_114 f_B_139 hc2 rfl rfl rfl rfl (v := .int (nI (nl - 1))) (by show Value.int (C2 34 0) = _; rw [W2.2.2.1.1.2.2.1]) ?_
              exact jm_iret d_B_letter_117 rfl ⟨L2, ρ2, sz2, C2, Or.inr (Or.inr (Or.inr ⟨tl, fun g i h8 _ => hk2 g i h8, q, hq, rfl, _, nl - 1, A, dd, rfl, W2, Or.inr (Or.inl ⟨hb105, rfl⟩)⟩)), hc2, hf2⟩
            · have hy0 : y = 0 := by
                obtain ⟨z, hz, rfl⟩ := nI_of (x := y) (fun z => absurd (Int32.lt_of_le_of_lt hy.1 z) (by decide))
                have z2 : z ≤ 2 := (nI_leI (b := 2) hz (by decide)).mp hy.2
                have z1 : z ≠ 1 := fun z => hb105 (by rw [z]; rfl)
                have z0 : z ≠ 2 := fun z => hb70 (by rw [z]; rfl)
                rw [show z = 0 by omega]; rfl
              obtain ⟨w1, B, M, IXh, LVs, CDh, Z5h⟩ := id W
              obtain ⟨l1, l2, l3, l4, l5, l6, l7⟩ := M.2.2.2.2.2.2.2.2.2 q hq
              obtain ⟨f, t, hf1, ht1, ef, et, -⟩ := LVs q hq
              obtain ⟨lo, e34, sl, s20, c41, c20⟩ := dl0_r (S := S) hq h20
              have n8 := B.1.2.1
              rw [l1, l2, l3, l4, ef, et] at hL2
              rw [ef, et] at LV2
              refine jm_aload_n d_B_letter_108 rfl ?_
              refine jm_aload_n d_B_letter_109 rfl ?_
              have w256 : S 35 q = 2 → (S 39 q).toNatClampNeg ≤ 256 := fun e => by
                obtain ⟨f, t, -, -, -, -, hv⟩ := LVs q hq
                rcases hv with ⟨k1, -⟩ | ⟨k1, -⟩ | ⟨-, -, -, -, k2, k3, -⟩ | ⟨k1, -⟩
                · rw [e] at k1; exact absurd k1 (by decide)
                · rw [e] at k1; exact absurd k1 (by decide)
                · rw [k2, nI_clamp (by omega)]; exact k3
                · rw [e] at k1; exact absurd k1 (by decide)
              refine jm_callV (r := ("BargainTree", jm_F0, 9)) (As := [_]) d_B_letter_110 l_B_148 iw_B_deliver ew_B_deliver rfl nv_B_deliver rfl (hc2.1 1 0 rfl).1 (Nat.le_of_ble_eq_true rfl) (by omega : 5 + 1 ≤ _) (by omega) (by omega) (k_B_deliver (a := t) (b := f) (by omega) hE W2 hc2 hL2 ht1 hf1 (s20 35 (by decide) (by decide)) (by rw [s20 36 (by decide) (by decide)]; exact ef) (s20 38 (by decide) (by decide)) (by rw [s20 39 (by decide) (by decide), s20 40 (by decide) (by decide)]; exact LV_cong (fun i hi => (c20 i hi).symm) LV2) (by rw [l5, s20 39 (by decide) (by decide)]) (fun e i hi => by
                have hi' : i < (S 39 q).toNatClampNeg := by
                  have : i < (dl0 S q nl 39 20).toNatClampNeg := hi
                  rw [s20 39 (by decide) (by decide)] at this; exact this
                rw [c20 i (by have := w256 e; omega)]; exact l6 e i hi') (fun e i hi => by rw [c20 i (by omega)]; exact l7 e i hi)) (fun v h3 hq3 => ?_) (fun X h' hq' => by obtain ⟨_, _, _, _, hq, _⟩ := hq'; cases hq.1)
              obtain ⟨L3, ρ3, sz3, C3, ⟨e0, hk3, nl3, A3, dd3, W3⟩, hc3, hf3⟩ := hq3
              cases e0
              refine jm_aload_n d_B_letter_113 rfl ?_
              refine cr_get 34 0 d_B_letter_114 f_B_139 hc3 rfl rfl rfl rfl (v := .int (nI nl3)) (by show Value.int (C3 34 0) = _; rw [W3.2.2.1.1.2.2.1]) ?_
              have en : N S 37 q = t := N_nI et (by omega)
              have en2 : N S 36 q = f := N_nI ef (by omega)
              exact jm_iret d_B_letter_117 rfl ⟨L3, ρ3, sz3, C3, Or.inr (Or.inr (Or.inr ⟨tl, fun g i h8 h4 => (hk3 g i h8 h4).trans (hk2 g i h8), q, hq, rfl, _, nl3, A3, dd3, rfl, W3, Or.inr (Or.inr ⟨hy0, by rw [en, en2]⟩)⟩)), hc3, hf2.tr hf3⟩
          · have hy2 : y = 2 := Decidable.not_not.mp hb70
            have h20' : nl < 20 := by
              rcases Nat.lt_or_ge nl 20 with z | z
              · exact z
              · exact absurd ⟨hy2, by rw [hn, show nl = 20 by omega]; rfl⟩ hor
            refine jm_aload_n d_B_letter_73 rfl ?_
            refine cr_get 80 0 d_B_letter_74 f_B_23 hc rfl rfl rfl rfl (v := .ref (L 0 2)) rfl ?_
            refine jm_aload_n d_B_letter_77 rfl ?_
            refine cr_get 34 0 d_B_letter_78 f_B_139 hc rfl rfl rfl rfl (v := .int (C 34 0)) rfl ?_
            rw [hn]
            refine jm_aload_n d_B_letter_81 rfl ?_
            refine jm_aastore 5 d_B_letter_82 (by decide) hc.2.1.2.2.2.2.1 (vp_in_nI h20' (by decide)) hLq.1 rfl rfl ?_
            rw [nI_clamp (show nl < 2 ^ 31 by omega)]
            obtain ⟨hc, hf⟩ := co_la hc hf (show nl ≤ sz 8 0 by omega) h20' hLq
            rw [if_neg (show ¬ nl < sz 8 0 by omega)] at hc
            have e34 : ltS C nl (C 35 q) (C 36 q) (C 37 q) (C 38 q) (C 67 q) (fun i => C 68 (256 * q + i)) 34 0 = nI nl := by simp [ltS, tbS, mu]; exact hn
            refine jm_aload_n d_B_letter_83 rfl ?_
            refine jm_dup d_B_letter_84 rfl ?_
            refine cr_get 34 0 d_B_letter_85 f_B_139 hc rfl rfl rfl rfl (v := .int (nI nl)) (by show Value.int (ltS C nl _ _ _ _ _ _ 34 0) = _; rw [e34]) ?_
            refine jm_iconstL (v := 1) d_B_letter_88 (by decide) ?_
            refine jm_iadd d_B_letter_89 ?_
            rw [nI_1]
            refine cr_put 34 0 _ d_B_letter_90 f_B_139 hc hf rfl rfl rfl rfl (by decide) (by decide) rfl rfl rfl (fun h hc hf => ?_)
            refine jm_aload_n d_B_letter_93 rfl ?_
            refine cr_get 34 0 d_B_letter_94 f_B_139 hc rfl rfl rfl rfl (v := .int (nI (nl + 1))) (by show Value.int (mu _ 34 0 _ 34 0) = _; rw [mu_same]) ?_
            exact jm_iret d_B_letter_97 rfl ⟨lu L 8 nl (L 8 q), _, _, _, Or.inr (Or.inr (Or.inr ⟨tl, fun g i h8 _ => if_neg (fun z => h8 z.1), q, hq, rfl, _, nl + 1, A, dd, rfl, dup_W W hq h20', Or.inl ⟨hy2, h20', rfl⟩⟩)), hc, hf⟩
        · refine jm_aload_n d_B_letter_42 rfl ?_
          refine cr_get 34 0 d_B_letter_43 f_B_139 hc rfl rfl rfl rfl (v := .int (C 34 0)) rfl ?_
          refine jm_bipushL (v := 20) d_B_letter_46 (by decide) ?_
          refine jm_icmp_ne 61 d_B_letter_48 (by decide) (fun hb48 => ?_) (fun hb48 => ?_)
          · have hy : 0 ≤ y ∧ y ≤ 2 := ⟨Int32.not_lt.mp hb1, hb6⟩
            have hor : ¬ (y = 2 ∧ C 34 0 = 20) := by first | exact fun z => hb39 z.1 | exact fun z => hb48 z.2
            obtain ⟨q, hq, rfl⟩ := ltC_ix hn h20 hb24
            have hlt : 0 ≤ nI q ∧ nI q ≤ S 34 0 - 1 := by rw [hSn]; exact ⟨nI_pos' (by omega), (le_pred h20 (nI_pos' (by omega))).mpr (nI_lt hq (by omega))⟩
            have hor' : ¬ (y = 2 ∧ S 34 0 = 20) := by rw [hSn, ← hn]; exact hor
            have tl : thLet S (nI q) y = 0 := by unfold thLet; rw [if_neg (not_not_intro hy), if_neg (not_not_intro hlt), if_neg hor']
            obtain ⟨A, dd, W⟩ := hW (by omega)
            have hLq := hc.2.2.2.2.1 q (by omega)
            refine jm_aload_n d_B_letter_61 rfl ?_
            refine cr_get 80 0 d_B_letter_62 f_B_23 hc rfl rfl rfl rfl (v := .ref (L 0 2)) rfl ?_
            refine jm_iload_n d_B_letter_65 rfl ?_
            refine cr_ald 5 77 q (e := q) d_B_letter_66 (by decide) rfl hc (show q < sz 8 0 by omega) rfl rfl rfl rfl (by have := hc.B.2.2.1; omega) (by decide) (v := .ref (L 8 q)) rfl ?_
            refine jm_astore_n d_B_letter_67 (Nat.le_of_ble_eq_true rfl) ?_
            refine jm_iload_n d_B_letter_68 rfl ?_
            refine jm_iconstL (v := 2) d_B_letter_69 (by decide) ?_
            refine jm_icmp_ne 98 d_B_letter_70 (by decide) (fun hb70 => ?_) (fun hb70 => ?_)
            · refine jm_aload_n d_B_letter_98 rfl ?_
              refine jm_iload_n d_B_letter_99 rfl ?_
              refine cr_call (r := ("BargainTree", jm_F0, 9)) (As := [_]) d_B_letter_100 l_B_144 iw_B_takeOut ew_B_takeOut rfl nv_B_takeOut rfl (hc.1 1 0 rfl).1 (Nat.le_of_ble_eq_true rfl) (by omega : 0 + 1 ≤ _) (Nat.zero_le _) (Nat.zero_le _) (k_B_takeOut hn hs h20 hq) hc hf (fun X L' sz' C' q => by cases q.1) (fun v L2 ρ2 sz2 C2 h2 hq2 hc2 hf2 hx2 => ?_)
              obtain ⟨e0, hk2, eS2, eC2⟩ := hq2
              cases e0
              obtain ⟨W2, LV2⟩ := take_W W hq
              rw [← eS2, ← eC2] at W2
              have hL2 := LET_xt hLq hx2
              refine jm_iload_n d_B_letter_103 rfl ?_
              refine jm_iconstL (v := 1) d_B_letter_104 (by decide) ?_
              refine jm_icmp_eq 113 d_B_letter_105 (by decide) (fun hb105 => ?_) (fun hb105 => ?_)
              · refine jm_aload_n d_B_letter_113 rfl ?_
                refine cr_get 34 0 d_B_letter_114 f_B_139 hc2 rfl rfl rfl rfl (v := .int (nI (nl - 1))) (by show Value.int (C2 34 0) = _; rw [W2.2.2.1.1.2.2.1]) ?_
                exact jm_iret d_B_letter_117 rfl ⟨L2, ρ2, sz2, C2, Or.inr (Or.inr (Or.inr ⟨tl, fun g i h8 _ => hk2 g i h8, q, hq, rfl, _, nl - 1, A, dd, rfl, W2, Or.inr (Or.inl ⟨hb105, rfl⟩)⟩)), hc2, hf2⟩
              · have hy0 : y = 0 := by
                  obtain ⟨z, hz, rfl⟩ := nI_of (x := y) (fun z => absurd (Int32.lt_of_le_of_lt hy.1 z) (by decide))
                  have z2 : z ≤ 2 := (nI_leI (b := 2) hz (by decide)).mp hy.2
                  have z1 : z ≠ 1 := fun z => hb105 (by rw [z]; rfl)
                  have z0 : z ≠ 2 := fun z => hb70 (by rw [z]; rfl)
                  rw [show z = 0 by omega]; rfl
                obtain ⟨w1, B, M, IXh, LVs, CDh, Z5h⟩ := id W
                obtain ⟨l1, l2, l3, l4, l5, l6, l7⟩ := M.2.2.2.2.2.2.2.2.2 q hq
                obtain ⟨f, t, hf1, ht1, ef, et, -⟩ := LVs q hq
                obtain ⟨lo, e34, sl, s20, c41, c20⟩ := dl0_r (S := S) hq h20
                have n8 := B.1.2.1
                rw [l1, l2, l3, l4, ef, et] at hL2
                rw [ef, et] at LV2
                refine jm_aload_n d_B_letter_108 rfl ?_
                refine jm_aload_n d_B_letter_109 rfl ?_
                have w256 : S 35 q = 2 → (S 39 q).toNatClampNeg ≤ 256 := fun e => by
                  obtain ⟨f, t, -, -, -, -, hv⟩ := LVs q hq
                  rcases hv with ⟨k1, -⟩ | ⟨k1, -⟩ | ⟨-, -, -, -, k2, k3, -⟩ | ⟨k1, -⟩
                  · rw [e] at k1; exact absurd k1 (by decide)
                  · rw [e] at k1; exact absurd k1 (by decide)
                  · rw [k2, nI_clamp (by omega)]; exact k3
                  · rw [e] at k1; exact absurd k1 (by decide)
                refine jm_callV (r := ("BargainTree", jm_F0, 9)) (As := [_]) d_B_letter_110 l_B_148 iw_B_deliver ew_B_deliver rfl nv_B_deliver rfl (hc2.1 1 0 rfl).1 (Nat.le_of_ble_eq_true rfl) (by omega : 5 + 1 ≤ _) (by omega) (by omega) (k_B_deliver (a := t) (b := f) (by omega) hE W2 hc2 hL2 ht1 hf1 (s20 35 (by decide) (by decide)) (by rw [s20 36 (by decide) (by decide)]; exact ef) (s20 38 (by decide) (by decide)) (by rw [s20 39 (by decide) (by decide), s20 40 (by decide) (by decide)]; exact LV_cong (fun i hi => (c20 i hi).symm) LV2) (by rw [l5, s20 39 (by decide) (by decide)]) (fun e i hi => by
                  have hi' : i < (S 39 q).toNatClampNeg := by
                    have : i < (dl0 S q nl 39 20).toNatClampNeg := hi
                    rw [s20 39 (by decide) (by decide)] at this; exact this
                  rw [c20 i (by have := w256 e; omega)]; exact l6 e i hi') (fun e i hi => by rw [c20 i (by omega)]; exact l7 e i hi)) (fun v h3 hq3 => ?_) (fun X h' hq' => by obtain ⟨_, _, _, _, hq, _⟩ := hq'; cases hq.1)
                obtain ⟨L3, ρ3, sz3, C3, ⟨e0, hk3, nl3, A3, dd3, W3⟩, hc3, hf3⟩ := hq3
                cases e0
                refine jm_aload_n d_B_letter_113 rfl ?_
                refine cr_get 34 0 d_B_letter_114 f_B_139 hc3 rfl rfl rfl rfl (v := .int (nI nl3)) (by show Value.int (C3 34 0) = _; rw [W3.2.2.1.1.2.2.1]) ?_
                have en : N S 37 q = t := N_nI et (by omega)
                have en2 : N S 36 q = f := N_nI ef (by omega)
                exact jm_iret d_B_letter_117 rfl ⟨L3, ρ3, sz3, C3, Or.inr (Or.inr (Or.inr ⟨tl, fun g i h8 h4 => (hk3 g i h8 h4).trans (hk2 g i h8), q, hq, rfl, _, nl3, A3, dd3, rfl, W3, Or.inr (Or.inr ⟨hy0, by rw [en, en2]⟩)⟩)), hc3, hf2.tr hf3⟩
            · have hy2 : y = 2 := Decidable.not_not.mp hb70
              have h20' : nl < 20 := by
                rcases Nat.lt_or_ge nl 20 with z | z
                · exact z
                · exact absurd ⟨hy2, by rw [hn, show nl = 20 by omega]; rfl⟩ hor
              refine jm_aload_n d_B_letter_73 rfl ?_
              refine cr_get 80 0 d_B_letter_74 f_B_23 hc rfl rfl rfl rfl (v := .ref (L 0 2)) rfl ?_
              refine jm_aload_n d_B_letter_77 rfl ?_
              refine cr_get 34 0 d_B_letter_78 f_B_139 hc rfl rfl rfl rfl (v := .int (C 34 0)) rfl ?_
              rw [hn]
              refine jm_aload_n d_B_letter_81 rfl ?_
              refine jm_aastore 5 d_B_letter_82 (by decide) hc.2.1.2.2.2.2.1 (vp_in_nI h20' (by decide)) hLq.1 rfl rfl ?_
              rw [nI_clamp (show nl < 2 ^ 31 by omega)]
              obtain ⟨hc, hf⟩ := co_la hc hf (show nl ≤ sz 8 0 by omega) h20' hLq
              rw [if_neg (show ¬ nl < sz 8 0 by omega)] at hc
              have e34 : ltS C nl (C 35 q) (C 36 q) (C 37 q) (C 38 q) (C 67 q) (fun i => C 68 (256 * q + i)) 34 0 = nI nl := by simp [ltS, tbS, mu]; exact hn
              refine jm_aload_n d_B_letter_83 rfl ?_
              refine jm_dup d_B_letter_84 rfl ?_
              refine cr_get 34 0 d_B_letter_85 f_B_139 hc rfl rfl rfl rfl (v := .int (nI nl)) (by show Value.int (ltS C nl _ _ _ _ _ _ 34 0) = _; rw [e34]) ?_
              refine jm_iconstL (v := 1) d_B_letter_88 (by decide) ?_
              refine jm_iadd d_B_letter_89 ?_
              rw [nI_1]
              refine cr_put 34 0 _ d_B_letter_90 f_B_139 hc hf rfl rfl rfl rfl (by decide) (by decide) rfl rfl rfl (fun h hc hf => ?_)
              refine jm_aload_n d_B_letter_93 rfl ?_
              refine cr_get 34 0 d_B_letter_94 f_B_139 hc rfl rfl rfl rfl (v := .int (nI (nl + 1))) (by show Value.int (mu _ 34 0 _ 34 0) = _; rw [mu_same]) ?_
              exact jm_iret d_B_letter_97 rfl ⟨lu L 8 nl (L 8 q), _, _, _, Or.inr (Or.inr (Or.inr ⟨tl, fun g i h8 _ => if_neg (fun z => h8 z.1), q, hq, rfl, _, nl + 1, A, dd, rfl, dup_W W hq h20', Or.inl ⟨hy2, h20', rfl⟩⟩)), hc, hf⟩
          · exact jm_throw (tx := "no room for one more letter") d_B_letter_51 d_B_letter_54 d_B_letter_55 d_B_letter_57 d_B_letter_60 x_1 (by decide +kernel) rfl (by omega) (by omega) (by simp; omega) (by decide) (Nat.le_of_ble_eq_true rfl) ⟨L, ρ, sz, C, Or.inr (Or.inr (Or.inl ⟨by unfold thLet; rw [if_neg (not_not_intro ⟨Int32.not_lt.mp hb1, hb6⟩), if_neg (not_not_intro (by rw [hSn]; exact ⟨hb24.1, (le_pred h20 hb24.1).mpr (by rw [← hn]; exact hb24.2)⟩)), if_pos ⟨Decidable.not_not.mp hb39, by rw [hSn, ← hn]; exact Decidable.not_not.mp hb48⟩], rfl, rfl, rfl, rfl⟩)), hc, hf⟩
      · exact jm_throw (tx := "no such letter") d_B_letter_27 d_B_letter_30 d_B_letter_31 d_B_letter_33 d_B_letter_36 x_2 (by decide +kernel) rfl (by omega) (by omega) (by simp; omega) (by decide) (Nat.le_of_ble_eq_true rfl) ⟨L, ρ, sz, C, Or.inr (Or.inl ⟨by unfold thLet; rw [if_neg (not_not_intro ⟨Int32.not_lt.mp hb1, hb6⟩), if_pos (by rw [hSn]; exact fun z => hb24 ⟨z.1, by rw [hn]; exact (le_pred h20 z.1).mp z.2⟩)], rfl, rfl, rfl, rfl⟩), hc, hf⟩
    · exact jm_throw (tx := "no such action") d_B_letter_9 d_B_letter_12 d_B_letter_13 d_B_letter_15 d_B_letter_18 x_0 (by decide +kernel) rfl (by omega) (by omega) (by simp; omega) (by decide) (Nat.le_of_ble_eq_true rfl) ⟨L, ρ, sz, C, Or.inl ⟨by unfold thLet; rw [if_pos (by first | exact fun z => absurd z.1 (Int32.not_le.mpr hb1) | exact fun z => hb6 z.2)], rfl, rfl, rfl, rfl⟩, hc, hf⟩
end
