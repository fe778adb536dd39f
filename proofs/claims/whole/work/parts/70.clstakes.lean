/-! THE CLASS: takesToken, takesBack, takesTable. Written by wip/whole/gen/p70.py -/
section
variable {Γ : jm_G} {d : Nat} {h h0 : jm_H} {x : Nat} {L : Nat → Nat → Nat} {ρ ρ0 : Nat → Nat} {sz : Nat → Nat → Nat} {C D : mS}
theorem TB_xt {h1 : jm_H} {ρ1 : Nat → Nat} {v : Value} {w : Int32} {f : Nat → Int32} (hT : TB h ρ v w f) (hf : xt ρ h ρ1 h1) : TB h1 ρ1 v w f := TB.fr (fun q hq hr => by
  obtain ⟨k1, k2, k3⟩ := hf q hq
  exact ⟨k1, k2, k3 (Or.inl hr)⟩) hT
theorem LET_xt {h1 : jm_H} {ρ1 : Nat → Nat} {q : Nat} {a b c e w : Int32} {f : Nat → Int32} (hL : LET h ρ q a b c e w f) (hf : xt ρ h ρ1 h1) : LET h1 ρ1 q a b c e w f := by
  obtain ⟨l1, l2, l3, l4, l5, l6, l7⟩ := hL
  obtain ⟨k1, k2, k3⟩ := hf q (by rw [l1]; exact fun z => by cases z)
  have k := k3 (Or.inl l2)
  exact ⟨k1.trans l1, k2.trans l2, by rw [k]; exact l3, by rw [k]; exact l4, by rw [k]; exact l5, by rw [k]; exact l6, by rw [k]; exact TB_xt l7 hf⟩
abbrev eInj (Γ : jm_G) : Prop := ∀ i j, i < 3 → j < 3 → jm_eA Γ i = jm_eA Γ j → i = j
abbrev tk0 (C : mS) (a : Nat) (f m : Int32) : mS := mu (mu (mu C 16 a f) 17 a (C 9 a &&& m)) 18 a (m ||| 1 <<< (nI a &&& 31))
theorem k_B_takesToken {q a : Nat} {kd f t m w : Int32} {e : Nat → Int32} {nl : Nat} (hd : 3 ≤ d) (ha : a < sz 1 0) (hE : eInj Γ) (hst : ∃ s, s < 3 ∧ C 50 a = nI s) (hn : C 34 0 = nI nl) (hs : sz 8 0 = nl) (h20 : nl ≤ 20) (hc : co Γ h x L ρ sz C) (hL : LET h ρ q kd f t m w e) : jm_M Γ m_B_takesToken d [.ref x, .ref (L 1 a), .ref q] h 1 5 (fun oc h' => ∃ L' ρ' sz' C', ((C 50 a = 0 ∧ oc = .inl (some (.int 1)) ∧ L' = L ∧ sz' = sz ∧ C' = tk0 C a f m) ∨ (C 50 a ≠ 0 ∧ oc = .inl (some (.int 0)) ∧ ((¬ (C 50 a = 2 ∧ C 16 a = f) ∧ L' = L ∧ sz' = sz ∧ C' = C) ∨ ((C 50 a = 2 ∧ C 16 a = f) ∧ ((C 16 a = -1 ∧ L' = L ∧ sz' = sz ∧ C' = C) ∨ (C 16 a ≠ -1 ∧ kL8 L L' ∧ sz' = lu sz 8 0 (nlS nl) ∧ C' = sndC C nl 1 (nI a) (C 16 a) (C 18 a) (-1) (fun _ => 0))))))) ∧ co Γ h' x L' ρ' sz' C' ∧ xt ρ h ρ' h') := by
  have hf : xt ρ h ρ h := xt.rf
  obtain ⟨s, hs3, hs4⟩ := hst
  refine jm_entry (by decide +kernel) (List.forall_mem_cons.mpr ⟨rfl, List.forall_mem_cons.mpr ⟨rfl, List.forall_mem_cons.mpr ⟨rfl, fun _ h => nomatch h⟩⟩⟩) (Nat.le_of_ble_eq_true rfl) ?_
  show jm_W _ _ _ _ _ _ 0 [some (.ref x), some (.ref (L 1 a)), some (.ref q)] [] _
  refine jm_aload_n d_B_takesToken_0 rfl ?_
  refine cr_get 50 a d_B_takesToken_1 f_B_176 hc (show a < sz 1 0 by omega) rfl rfl rfl (v := .ref (jm_eA Γ s)) (cE_stage hs4 hs3) ?_
  refine jm_getE d_B_takesToken_4 (by decide) f_B_291 ?_
  refine jm_acmp_ne 48 d_B_takesToken_7 (by decide) (fun hb7 => ?_) (fun hb7 => ?_)
  · refine jm_aload_n d_B_takesToken_48 rfl ?_
    refine cr_get 50 a d_B_takesToken_49 f_B_176 hc (show a < sz 1 0 by omega) rfl rfl rfl (v := .ref (jm_eA Γ s)) (cE_stage hs4 hs3) ?_
    refine jm_getE d_B_takesToken_52 (by decide) f_B_189 ?_
    refine jm_acmp_ne 74 d_B_takesToken_55 (by decide) (fun hb55 => ?_) (fun hb55 => ?_)
    · refine jm_iconstL (v := 0) d_B_takesToken_74 (by decide) ?_
      exact jm_zret d_B_takesToken_75 rfl (by first | rfl | (split <;> rfl)) ⟨_, _, _, _, Or.inr ⟨(fun z0 => hb7 (by rw [(nI_eq (b := 0) (by omega) (by decide)).mp (hs4.symm.trans z0)])), rfl, Or.inl ⟨by first | exact fun z => hb66 z.2 | exact fun z => hb55 (by rw [(nI_eq (b := 2) (by omega) (by decide)).mp (hs4.symm.trans z.1)]), rfl, rfl, rfl⟩⟩, hc, hf⟩
    · refine jm_aload_n d_B_takesToken_58 rfl ?_
      refine cr_get 16 a d_B_takesToken_59 f_B_239 hc (show a < sz 1 0 by omega) rfl rfl rfl (v := .int (C 16 a)) rfl ?_
      refine jm_aload_n d_B_takesToken_62 rfl ?_
      refine cr_l1G (fin := false) d_B_takesToken_63 f_B_155 (LET_xt hL hf) ?_
      refine jm_icmp_ne 74 d_B_takesToken_66 (by decide) (fun hb66 => ?_) (fun hb66 => ?_)
      · refine jm_iconstL (v := 0) d_B_takesToken_74 (by decide) ?_
        exact jm_zret d_B_takesToken_75 rfl (by first | rfl | (split <;> rfl)) ⟨_, _, _, _, Or.inr ⟨(fun z0 => hb7 (by rw [(nI_eq (b := 0) (by omega) (by decide)).mp (hs4.symm.trans z0)])), rfl, Or.inl ⟨by first | exact fun z => hb66 z.2 | exact fun z => hb55 (by rw [(nI_eq (b := 2) (by omega) (by decide)).mp (hs4.symm.trans z.1)]), rfl, rfl, rfl⟩⟩, hc, hf⟩
      · refine jm_aload_n d_B_takesToken_69 rfl ?_
        refine jm_aload_n d_B_takesToken_70 rfl ?_
        refine cr_call (r := ("BargainTree", jm_F0, 9)) (As := [_]) d_B_takesToken_71 l_B_192 iw_B_sendBack ew_B_sendBack rfl nv_B_sendBack rfl (hc.1 1 0 rfl).1 (Nat.le_of_ble_eq_true rfl) (by omega : 2 + 1 ≤ _) (by omega) (by omega) (k_B_sendBack (a := a) (nl := nl) (by omega) ha hn hs h20) hc hf (fun X L' sz' C' q => by cases q.1) (fun v L3 ρ' sz3 C3 h' hq hc hf _ => ?_)
        obtain ⟨e0, hq⟩ := hq
        cases e0
        refine jm_iconstL (v := 0) d_B_takesToken_74 (by decide) ?_
        exact jm_zret d_B_takesToken_75 rfl rfl ⟨L3, ρ', sz3, C3, Or.inr ⟨(fun z0 => hb7 (by rw [(nI_eq (b := 0) (by omega) (by decide)).mp (hs4.symm.trans z0)])), rfl, Or.inr ⟨⟨by rw [hs4]; exact congrArg nI (hE s 2 hs3 (by decide) (Decidable.not_not.mp hb55)), Decidable.not_not.mp hb66⟩, hq⟩⟩, hc, hf⟩
  · refine jm_aload_n d_B_takesToken_10 rfl ?_
    refine jm_aload_n d_B_takesToken_11 rfl ?_
    refine cr_l1G (fin := false) d_B_takesToken_12 f_B_155 (LET_xt hL hf) ?_
    refine cr_put 16 a _ d_B_takesToken_15 f_B_239 hc hf (show a < sz 1 0 by omega) rfl rfl rfl (by decide) (by decide) rfl rfl rfl (fun h hc hf => ?_)
    refine jm_aload_n d_B_takesToken_18 rfl ?_
    refine jm_aload_n d_B_takesToken_19 rfl ?_
    refine cr_get 9 a d_B_takesToken_20 f_B_93 hc (show a < sz 1 0 by omega) rfl rfl rfl (v := .int (C 9 a)) (by show Value.int (mu C 16 a f 9 a) = _; rw [mu_row (by decide)]) ?_
    refine jm_aload_n d_B_takesToken_23 rfl ?_
    refine cr_l3G (fin := false) d_B_takesToken_24 f_B_161 (LET_xt hL hf) ?_
    refine jm_iand d_B_takesToken_27 ?_
    refine cr_put 17 a _ d_B_takesToken_28 f_B_224 hc hf (show a < sz 1 0 by omega) rfl rfl rfl (by decide) (by decide) rfl rfl rfl (fun h hc hf => ?_)
    refine jm_aload_n d_B_takesToken_31 rfl ?_
    refine jm_aload_n d_B_takesToken_32 rfl ?_
    refine cr_l3G (fin := false) d_B_takesToken_33 f_B_161 (LET_xt hL hf) ?_
    refine jm_iconstL (v := 1) d_B_takesToken_36 (by decide) ?_
    refine jm_aload_n d_B_takesToken_37 rfl ?_
    refine cr_getG 71 a d_B_takesToken_38 f_B_294 hc (show a < sz 1 0 by omega) rfl rfl rfl (v := .int (nI a)) rfl ?_
    refine jm_ishl d_B_takesToken_41 ?_
    refine jm_ior d_B_takesToken_42 ?_
    refine cr_put 18 a _ d_B_takesToken_43 f_B_118 hc hf (show a < sz 1 0 by omega) rfl rfl rfl (by decide) (by decide) rfl rfl rfl (fun h hc hf => ?_)
    refine jm_iconstL (v := 1) d_B_takesToken_46 (by decide) ?_
    exact jm_zret d_B_takesToken_47 rfl (by first | rfl | (split <;> rfl)) ⟨_, _, _, _, Or.inl ⟨by rw [hs4, hE s 0 hs3 (by decide) (Decidable.not_not.mp hb7)]; rfl, rfl, rfl, rfl, rfl⟩, hc, hf⟩
theorem k_B_takesBack {q a : Nat} {kd f t m w : Int32} {e : Nat → Int32} (ha : a < sz 1 0) (hE : eInj Γ) (hst : ∃ s, s < 3 ∧ C 50 a = nI s) (hc : co Γ h x L ρ sz C) (hL : LET h ρ q kd f t m w e) : jm_M Γ m_B_takesBack d [.ref x, .ref (L 1 a), .ref q] h 0 0 (fun oc h' => ∃ L' ρ' sz' C', ((¬ (C 50 a = 1 ∧ C 51 a = f) ∧ oc = .inl (some (.int 0)) ∧ L' = L ∧ sz' = sz ∧ C' = C) ∨ ((C 50 a = 1 ∧ C 51 a = f) ∧ oc = .inl (some (.int 1)) ∧ L' = L ∧ sz' = sz ∧ C' = mu C 18 a m)) ∧ co Γ h' x L' ρ' sz' C' ∧ xt ρ h ρ' h') := by
  have hf : xt ρ h ρ h := xt.rf
  obtain ⟨s, hs3, hs4⟩ := hst
  refine jm_entry (by decide +kernel) (List.forall_mem_cons.mpr ⟨rfl, List.forall_mem_cons.mpr ⟨rfl, List.forall_mem_cons.mpr ⟨rfl, fun _ h => nomatch h⟩⟩⟩) (Nat.le_of_ble_eq_true rfl) ?_
  show jm_W _ _ _ _ _ _ 0 [some (.ref x), some (.ref (L 1 a)), some (.ref q)] [] _
  refine jm_aload_n d_B_takesBack_0 rfl ?_
  refine cr_get 50 a d_B_takesBack_1 f_B_176 hc (show a < sz 1 0 by omega) rfl rfl rfl (v := .ref (jm_eA Γ s)) (cE_stage hs4 hs3) ?_
  refine jm_getE d_B_takesBack_4 (by decide) f_B_180 ?_
  refine jm_acmp_ne 21 d_B_takesBack_7 (by decide) (fun hb7 => ?_) (fun hb7 => ?_)
  · refine jm_iconstL (v := 0) d_B_takesBack_21 (by decide) ?_
    exact jm_zret d_B_takesBack_22 rfl (by first | rfl | (split <;> rfl)) ⟨_, _, _, _, Or.inl ⟨by first | exact fun z => hb18 z.2 | exact fun z => hb7 (by rw [(nI_eq (b := 1) (by omega) (by decide)).mp (hs4.symm.trans z.1)]), rfl, rfl, rfl, rfl⟩, hc, hf⟩
  · refine jm_aload_n d_B_takesBack_10 rfl ?_
    refine cr_get 51 a d_B_takesBack_11 f_B_297 hc (show a < sz 1 0 by omega) rfl rfl rfl (v := .int (C 51 a)) rfl ?_
    refine jm_aload_n d_B_takesBack_14 rfl ?_
    refine cr_l1G (fin := false) d_B_takesBack_15 f_B_155 (LET_xt hL hf) ?_
    refine jm_icmp_eq 23 d_B_takesBack_18 (by decide) (fun hb18 => ?_) (fun hb18 => ?_)
    · refine jm_aload_n d_B_takesBack_23 rfl ?_
      refine jm_aload_n d_B_takesBack_24 rfl ?_
      refine cr_l3G (fin := false) d_B_takesBack_25 f_B_161 (LET_xt hL hf) ?_
      refine cr_put 18 a _ d_B_takesBack_28 f_B_118 hc hf (show a < sz 1 0 by omega) rfl rfl rfl (by decide) (by decide) rfl rfl rfl (fun h hc hf => ?_)
      refine jm_iconstL (v := 1) d_B_takesBack_31 (by decide) ?_
      exact jm_zret d_B_takesBack_32 rfl (by first | rfl | (split <;> rfl)) ⟨_, _, _, _, Or.inr ⟨⟨by rw [hs4]; exact congrArg nI (hE s 1 hs3 (by decide) (Decidable.not_not.mp hb7)), hb18⟩, rfl, rfl, rfl, rfl⟩, hc, hf⟩
    · refine jm_iconstL (v := 0) d_B_takesBack_21 (by decide) ?_
      exact jm_zret d_B_takesBack_22 rfl (by first | rfl | (split <;> rfl)) ⟨_, _, _, _, Or.inl ⟨by first | exact fun z => hb18 z.2 | exact fun z => hb7 (by rw [(nI_eq (b := 1) (by omega) (by decide)).mp (hs4.symm.trans z.1)]), rfl, rfl, rfl, rfl⟩, hc, hf⟩
abbrev tt0 (C : mS) (a k : Nat) (m w : Int32) (e : Nat → Int32) : mS := tbS (mu C 54 (8 * a + k) m) 55 56 (8 * a + k) w e
theorem k_B_takesTable {q a : Nat} {kd f t m w : Int32} {e : Nat → Int32} {cc : Nat} (hd : 1 ≤ d) (ha : a < sz 1 0) (hE : eInj Γ) (hst : ∃ s, s < 3 ∧ C 50 a = nI s) (h52 : C 52 a = nI cc) (h4 : sz 4 a = cc) (hcc : cc ≤ 7) (h53 : ∀ k, k < cc → ∃ b, b < sz 1 0 ∧ C 53 (8 * a + k) = nI b) (hc : co Γ h x L ρ sz C) (hL : LET h ρ q kd f t m w e) : jm_M Γ m_B_takesTable d [.ref x, .ref (L 1 a), .ref q] h 0 0 (fun oc h' => ∃ L' ρ' sz' C', (((cfR (C 53) a f cc 0 = -1 ∨ ∃ k, k < cc ∧ cfR (C 53) a f cc 0 = nI k ∧ m ≤ C 54 (8 * a + k)) ∧ oc = .inl (some (.int 0)) ∧ L' = L ∧ sz' = sz ∧ C' = C) ∨ (∃ k, k < cc ∧ cfR (C 53) a f cc 0 = nI k ∧ ¬ m ≤ C 54 (8 * a + k) ∧ oc = .inl (some (.int (if C 50 a = 2 ∧ haCR (tt0 C a k m w e 55) a cc = true then 1 else 0))) ∧ L' = L ∧ sz' = sz ∧ C' = tt0 C a k m w e)) ∧ co Γ h' x L' ρ' sz' C' ∧ xt ρ h ρ' h') := by
  have hf : xt ρ h ρ h := xt.rf
  obtain ⟨s, hs3, hs4⟩ := hst
  refine jm_entry (by decide +kernel) (List.forall_mem_cons.mpr ⟨rfl, List.forall_mem_cons.mpr ⟨rfl, List.forall_mem_cons.mpr ⟨rfl, fun _ h => nomatch h⟩⟩⟩) (Nat.le_of_ble_eq_true rfl) ?_
  show jm_W _ _ _ _ _ _ 0 [some (.ref x), some (.ref (L 1 a)), some (.ref q), none] [] _
  refine jm_aload_n d_B_takesTable_0 rfl ?_
  refine jm_aload_n d_B_takesTable_1 rfl ?_
  refine cr_l1G (fin := false) d_B_takesTable_2 f_B_155 (LET_xt hL hf) ?_
  rcases cfR_ix (ca := C 53) (a := a) (b := f) cc 0 with ⟨hr, -⟩ | ⟨k, -, hk, ek, e53⟩
  · refine cr_callp (r := ("BargainTree$Agent", jm_F1, 18)) (As := [_]) d_B_takesTable_5 l_B_300 iw_A_childWith ew_A_childWith rfl nv_A_childWith rfl (hc.1 3 a (show a < sz 1 0 by omega)).1 (Nat.le_of_ble_eq_true rfl) (by omega : 0 + 1 ≤ _) (k_A_childWith (by omega) h52 h4 h53 f) hc ?_
    rw [show cvV L a (cfR (C 53) a f cc 0) = .null from if_pos hr]
    refine jm_astore_nN d_B_takesTable_8 (Nat.le_of_ble_eq_true rfl) ?_
    refine jm_aload_nN d_B_takesTable_9 rfl ?_
    refine jm_ifnullN 24 d_B_takesTable_10 (by decide) ?_
    refine jm_iconstL (v := 0) d_B_takesTable_24 (by decide) ?_
    exact jm_zret d_B_takesTable_25 rfl (by first | rfl | (split <;> rfl)) ⟨_, _, _, _, Or.inl ⟨Or.inl hr, rfl, rfl, rfl, rfl⟩, hc, hf⟩
  · have hk : k < cc := by omega
    refine cr_callp (r := ("BargainTree$Agent", jm_F1, 18)) (As := [_]) d_B_takesTable_5 l_B_300 iw_A_childWith ew_A_childWith rfl nv_A_childWith rfl (hc.1 3 a (show a < sz 1 0 by omega)).1 (Nat.le_of_ble_eq_true rfl) (by omega : 0 + 1 ≤ _) (k_A_childWith (by omega) h52 h4 h53 f) hc ?_
    rw [show cvV L a (cfR (C 53) a f cc 0) = .ref (L 4 (8 * a + k)) from by rw [ek, cvV, if_neg (nI_m1 (by omega)), nI_clamp (by omega)]]
    refine jm_astore_n d_B_takesTable_8 (Nat.le_of_ble_eq_true rfl) ?_
    refine jm_aload_n d_B_takesTable_9 rfl ?_
    refine jm_ifnull d_B_takesTable_10 ?_
    refine jm_aload_n d_B_takesTable_13 rfl ?_
    refine cr_l3G (fin := false) d_B_takesTable_14 f_B_161 (LET_xt hL hf) ?_
    refine jm_aload_n d_B_takesTable_17 rfl ?_
    refine cr_get 54 (8 * a + k) d_B_takesTable_18 f_B_304 hc (cv_ch (show a < sz 1 0 by omega) (show k < sz 4 a by omega) hc.B) rfl rfl rfl (v := .int (C 54 (8 * a + k))) rfl ?_
    refine jm_icmp_gt 26 d_B_takesTable_21 (by decide) (fun hb21 => ?_) (fun hb21 => ?_)
    · have hb21' : ¬ m ≤ C 54 (8 * a + k) := Int32.not_le.mpr hb21
      refine jm_aload_n d_B_takesTable_26 rfl ?_
      refine jm_aload_n d_B_takesTable_27 rfl ?_
      refine cr_l3G (fin := false) d_B_takesTable_28 f_B_161 (LET_xt hL hf) ?_
      refine cr_put 54 (8 * a + k) _ d_B_takesTable_31 f_B_304 hc hf (cv_ch (show a < sz 1 0 by omega) (show k < sz 4 a by omega) hc.B) rfl rfl rfl (by decide) (by decide) rfl rfl rfl (fun h hc hf => ?_)
      refine jm_aload_n d_B_takesTable_34 rfl ?_
      refine jm_aload_n d_B_takesTable_35 rfl ?_
      refine cr_l4G (fin := false) d_B_takesTable_36 f_B_284 (LET_xt hL hf) (fun v9 hT9 => ?_)
      skip
      have hT8 := hT9
      refine jm_putf d_B_takesTable_39 f_B_307 (hc.1 53 (8 * a + k) (cv_ch (show a < sz 1 0 by omega) (show k < sz 4 a by omega) hc.B)).1 (by rcases hT9 with ⟨-, rfl⟩ | ⟨_, _, rfl, _⟩ <;> rfl) (by rcases hT9 with ⟨-, rfl⟩ | ⟨_, _, rfl, _⟩ <;> rfl) ?_
      obtain ⟨hc, hf⟩ := co_t55 hc hf (cv_ch (show a < sz 1 0 by omega) (show k < sz 4 a by omega) hc.B) hT8
      have hc : co Γ _ x L ρ sz (tt0 C a k m w e) := hc
      have es : tt0 C a k m w e 50 a = nI s := by rw [tt0, tbS_row (by decide) (by decide), mu_row (by decide), hs4]
      refine jm_aload_n d_B_takesTable_42 rfl ?_
      refine cr_get 50 a d_B_takesTable_43 f_B_176 hc (show a < sz 1 0 by omega) rfl rfl rfl (v := .ref (jm_eA Γ s)) (cE_stage es hs3) ?_
      refine jm_getE d_B_takesTable_46 (by decide) f_B_189 ?_
      refine jm_acmp_ne 63 d_B_takesTable_49 (by decide) (fun hb49 => ?_) (fun hb49 => ?_)
      · refine jm_iconstL (v := 0) d_B_takesTable_63 (by decide) ?_
        exact jm_zret d_B_takesTable_64 rfl rfl ⟨_, _, _, _, Or.inr ⟨k, hk, ek, hb21', by rw [if_neg (fun z : C 50 a = 2 ∧ haCR (tt0 C a k m w e 55) a cc = true => hb49 (by rw [(nI_eq (b := 2) (by omega) (by decide)).mp (hs4.symm.trans z.1)]))], rfl, rfl, rfl⟩, hc, hf⟩
      · refine jm_aload_n d_B_takesTable_52 rfl ?_
        refine cr_callp (r := ("BargainTree$Agent", jm_F1, 18)) (As := []) d_B_takesTable_53 l_B_308 iw_A_hasAllTables ew_A_hasAllTables rfl nv_A_hasAllTables rfl (hc.1 3 a (show a < sz 1 0 by omega)).1 (Nat.le_of_ble_eq_true rfl) (by omega : 0 + 1 ≤ _) (k_A_hasAllTables (a := a) (cc := cc) (by omega) (by rw [tt0, tbS_row (by decide) (by decide), mu_row (by decide)]; exact h52) h4) hc ?_
        refine jm_if_eq 63 d_B_takesTable_56 (by decide) (fun hb56 => ?_) (fun hb56 => ?_)
        · have hno : ¬ haCR (tt0 C a k m w e 55) a cc = true := fun z => by rw [z] at hb56; exact absurd hb56 (by decide)
          refine jm_iconstL (v := 0) d_B_takesTable_63 (by decide) ?_
          exact jm_zret d_B_takesTable_64 rfl rfl ⟨_, _, _, _, Or.inr ⟨k, hk, ek, hb21', by rw [if_neg (fun z => hno z.2)], rfl, rfl, rfl⟩, hc, hf⟩
        · have hyes : haCR (tt0 C a k m w e 55) a cc = true := by
            cases z : haCR (tt0 C a k m w e 55) a cc
            · rw [z] at hb56; exact absurd rfl hb56
            · rfl
          refine jm_iconstL (v := 1) d_B_takesTable_59 (by decide) ?_
          refine jm_goto 64 d_B_takesTable_60 (by decide) ?_
          exact jm_zret d_B_takesTable_64 rfl rfl ⟨_, _, _, _, Or.inr ⟨k, hk, ek, hb21', by rw [if_pos ⟨by rw [hs4]; exact congrArg nI (hE s 2 hs3 (by decide) (Decidable.not_not.mp hb49)), hyes⟩], rfl, rfl, rfl⟩, hc, hf⟩
    · refine jm_iconstL (v := 0) d_B_takesTable_24 (by decide) ?_
      exact jm_zret d_B_takesTable_25 rfl rfl ⟨_, _, _, _, Or.inl ⟨Or.inr ⟨k, hk, ek, Int32.not_lt.mp hb21⟩, rfl, rfl, rfl, rfl⟩, hc, hf⟩
end
