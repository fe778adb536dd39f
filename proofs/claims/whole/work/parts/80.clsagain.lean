/-! CLASS AND REFERENCE: again. Written by wip/whole/gen/p80.py -/
section
variable {Γ : jm_G} {d x rc rs : Nat} {L sz L0 : Nat → Nat → Nat} {S C : mS} {h h0 : jm_H} {ρ ρ0 : Nat → Nat} {n np nl T a : Nat} {A : Rl} {dd : Nat → Nat} {Q : jm_O → jm_H → Prop}
theorem ag_s1 (hd : 3 ≤ d) (hE : eInj Γ) (ha : a < n) (W : WI S C n np nl T sz A dd noH 8 8) (hc : co Γ h x L ρ sz C) (hf : xt ρ0 h0 ρ h) (hk : kL8 L0 L) (hrc : 1 ≤ rc) (hrs : 5 ≤ rs)
    (K : ∀ (h : jm_H) (ρ : Nat → Nat) (L sz : Nat → Nat → Nat) (C : mS) (nl : Nat), co Γ h x L ρ sz C → xt ρ0 h0 ρ h → kL8 L0 L → WI (ag1 S a) C n np nl T sz A dd noH 8 8 → jm_W Γ m_B_again d (rc - 1) (rs - 5) Q 57 [some (.ref x), some (.int (nI a)), some (.ref (L 1 a))] [] h) :
    jm_W Γ m_B_again d rc rs Q 42 [some (.ref x), some (.int (nI a)), some (.ref (L 1 a))] [] h := by
  obtain ⟨w1, B, M, IXh, LVs, CDh, Z5h⟩ := id W
  have n8 := B.1.2.1
  have hs1 : sz 1 0 = n := M.1.2.2.2.2.2.1
  have ha1 : a < sz 1 0 := by rw [hs1]; exact ha
  obtain ⟨⟨s, hs3, hs4⟩, -, -, -⟩ := stg_ix M n8 ha
  have hn34 := M.1.2.2.1
  have hs8 := M.1.2.2.2.2.2.2.2
  have h20 := B.1.2.2.2.2.2.1
  have Wa := ag1_W W ha
  refine jm_aload_n d_B_again_42 rfl ?_
  refine cr_get 50 a d_B_again_43 f_B_176 hc (show a < sz 1 0 by omega) rfl rfl rfl (v := .ref (jm_eA Γ s)) (cE_stage hs4 hs3) ?_
  refine jm_getE d_B_again_46 (by decide) f_B_180 ?_
  refine jm_acmp_ne 57 d_B_again_49 (by decide) (fun hb49 => ?_) (fun hb49 => ?_)
  · have ne : C 50 a ≠ 1 := fun z => hb49 (by rw [(nI_eq (b := 1) (by omega) (by decide)).mp (hs4.symm.trans z)])
    exact jm_W.room (Nat.sub_le _ _) (Nat.sub_le _ _) <| K h ρ L sz C nl hc hf hk (by rw [Wa.2 ne]; exact W)
  · refine jm_aload_n d_B_again_52 rfl ?_
    refine jm_aload_n d_B_again_53 rfl ?_
    have eq1 : C 50 a = 1 := by rw [hs4]; exact congrArg nI (hE s 1 hs3 (by decide) (Decidable.not_not.mp hb49))
    refine cr_call (r := ("BargainTree", jm_F0, 9)) (As := [_]) d_B_again_54 l_B_185 iw_B_sendToken ew_B_sendToken rfl nv_B_sendToken rfl (hc.1 1 0 rfl).1 (Nat.le_of_ble_eq_true rfl) (by omega : 2 + 1 ≤ _) (by omega) (by omega) (k_B_sendToken (a := a) (nl := nl) (by omega) ha1 hn34 hs8 h20) hc hf (fun X L' sz' C' q => by cases q.1) (fun v L2 ρ2 sz2 C2 h2 hq hc2 hf2 _ => ?_)
    obtain ⟨e0, hk2, eS, eC⟩ := hq
    cases e0
    rw [← hk2 1 a (by decide)]
    exact K h2 ρ2 L2 sz2 C2 (nlS nl) hc2 hf2 (fun g i hg => (hk2 g i hg).trans (hk g i hg)) (by rw [eS, eC]; exact Wa.1 eq1)
theorem ag_s2 (hd : 3 ≤ d) (hE : eInj Γ) (ha : a < n) (W : WI S C n np nl T sz A dd noH 8 8) (hc : co Γ h x L ρ sz C) (hf : xt ρ0 h0 ρ h) (hk : kL8 L0 L) (hrc : 1 ≤ rc) (hrs : 5 ≤ rs)
    (K : ∀ (h : jm_H) (ρ : Nat → Nat) (L sz : Nat → Nat → Nat) (C : mS) (nl : Nat), co Γ h x L ρ sz C → xt ρ0 h0 ρ h → kL8 L0 L → WI (ag2 S a) C n np nl T sz A dd noH 8 8 → jm_W Γ m_B_again d (rc - 1) (rs - 5) Q 72 [some (.ref x), some (.int (nI a)), some (.ref (L 1 a))] [] h) :
    jm_W Γ m_B_again d rc rs Q 57 [some (.ref x), some (.int (nI a)), some (.ref (L 1 a))] [] h := by
  obtain ⟨w1, B, M, IXh, LVs, CDh, Z5h⟩ := id W
  have n8 := B.1.2.1
  have hs1 : sz 1 0 = n := M.1.2.2.2.2.2.1
  have ha1 : a < sz 1 0 := by rw [hs1]; exact ha
  obtain ⟨⟨s, hs3, hs4⟩, -, -, -⟩ := stg_ix M n8 ha
  have hn34 := M.1.2.2.1
  have hs8 := M.1.2.2.2.2.2.2.2
  have h20 := B.1.2.2.2.2.2.1
  have Wa := ag2_W W ha
  refine jm_aload_n d_B_again_57 rfl ?_
  refine cr_get 50 a d_B_again_58 f_B_176 hc (show a < sz 1 0 by omega) rfl rfl rfl (v := .ref (jm_eA Γ s)) (cE_stage hs4 hs3) ?_
  refine jm_getE d_B_again_61 (by decide) f_B_189 ?_
  refine jm_acmp_ne 72 d_B_again_64 (by decide) (fun hb64 => ?_) (fun hb64 => ?_)
  · have ne : C 50 a ≠ 2 := fun z => hb64 (by rw [(nI_eq (b := 2) (by omega) (by decide)).mp (hs4.symm.trans z)])
    exact jm_W.room (Nat.sub_le _ _) (Nat.sub_le _ _) <| K h ρ L sz C nl hc hf hk (by rw [Wa.2 (fun z => ne z.1)]; exact W)
  · refine jm_aload_n d_B_again_67 rfl ?_
    refine jm_aload_n d_B_again_68 rfl ?_
    have eq1 : C 50 a = 2 := by rw [hs4]; exact congrArg nI (hE s 2 hs3 (by decide) (Decidable.not_not.mp hb64))
    refine cr_call (r := ("BargainTree", jm_F0, 9)) (As := [_]) d_B_again_69 l_B_192 iw_B_sendBack ew_B_sendBack rfl nv_B_sendBack rfl (hc.1 1 0 rfl).1 (Nat.le_of_ble_eq_true rfl) (by omega : 2 + 1 ≤ _) (by omega) (by omega) (k_B_sendBack (a := a) (nl := nl) (by omega) ha1 hn34 hs8 h20) hc hf (fun X L' sz' C' q => by cases q.1) (fun v L2 ρ2 sz2 C2 h2 hq hc2 hf2 _ => ?_)
    obtain ⟨e0, hq⟩ := hq
    cases e0
    rcases hq with ⟨q1, rfl, eS, eC⟩ | ⟨q1, hk2, eS, eC⟩
    · exact K h2 ρ2 _ sz2 C2 nl hc2 hf2 hk (by rw [eS, eC, Wa.2 (fun z => z.2 q1)]; exact W)
    · rw [← hk2 1 a (by decide)]
      exact K h2 ρ2 L2 sz2 C2 (nlS nl) hc2 hf2 (fun g i hg => (hk2 g i hg).trans (hk g i hg)) (by rw [eS, eC]; exact Wa.1 ⟨eq1, q1⟩)
theorem ag_s3 (hd : 3 ≤ d) (hE : eInj Γ) (ha : a < n) (W : WI S C n np nl T sz A dd noH 8 8) (hc : co Γ h x L ρ sz C) (hf : xt ρ0 h0 ρ h) (hk : kL8 L0 L) (hrc : 1 ≤ rc) (hrs : 5 ≤ rs)
    (K : ∀ (h : jm_H) (ρ : Nat → Nat) (L sz : Nat → Nat → Nat) (C : mS) (nl : Nat), co Γ h x L ρ sz C → xt ρ0 h0 ρ h → kL8 L0 L → WI (ag3 S a) C n np nl T sz A dd noH 8 8 → jm_W Γ m_B_again d (rc - 1) (rs - 5) Q 84 [some (.ref x), some (.int (nI a)), some (.ref (L 1 a))] [] h) :
    jm_W Γ m_B_again d rc rs Q 72 [some (.ref x), some (.int (nI a)), some (.ref (L 1 a))] [] h := by
  obtain ⟨w1, B, M, IXh, LVs, CDh, Z5h⟩ := id W
  have n8 := B.1.2.1
  have hs1 : sz 1 0 = n := M.1.2.2.2.2.2.1
  have ha1 : a < sz 1 0 := by rw [hs1]; exact ha
  obtain ⟨⟨s, hs3, hs4⟩, -, -, -⟩ := stg_ix M n8 ha
  have hn34 := M.1.2.2.1
  have hs8 := M.1.2.2.2.2.2.2.2
  have h20 := B.1.2.2.2.2.2.1
  have Wa := ag3_W W ha
  refine jm_aload_n d_B_again_72 rfl ?_
  refine cr_t57 a d_B_again_73 f_B_195 hc ha1 (fun v9 hT9 => ?_)
  rcases hT9 with ⟨hw9, rfl⟩ | ⟨r9, n9, rfl, hw9, hn9, -⟩
  · refine jm_ifnullN 84 d_B_again_76 (by decide) ?_
    exact jm_W.room (Nat.sub_le _ _) (Nat.sub_le _ _) <| K h ρ L sz C nl hc hf hk (by rw [Wa.2 (fun z => z.1 hw9)]; exact W)
  · refine jm_ifnull d_B_again_76 ?_
    have ne : C 57 a ≠ -1 := by rw [hw9]; exact nI_m1 (by omega)
    refine jm_aload_n d_B_again_79 rfl ?_
    refine jm_aload_n d_B_again_80 rfl ?_
    refine cr_call (r := ("BargainTree", jm_F0, 9)) (As := [_]) d_B_again_81 l_B_198 iw_B_sendTable ew_B_sendTable rfl nv_B_sendTable rfl (hc.1 1 0 rfl).1 (Nat.le_of_ble_eq_true rfl) (by omega : 2 + 1 ≤ _) (by omega) (by omega) (k_B_sendTable (a := a) (nl := nl) (by omega) ha1 ne hn34 hs8 h20) hc hf (fun X L' sz' C' q => by cases q.1) (fun v L2 ρ2 sz2 C2 h2 hq hc2 hf2 _ => ?_)
    obtain ⟨e0, hq⟩ := hq
    cases e0
    rcases hq with ⟨q1, rfl, eS, eC⟩ | ⟨q1, hk2, eS, eC⟩
    · exact K h2 ρ2 _ sz2 C2 nl hc2 hf2 hk (by rw [eS, eC, Wa.2 (fun z => z.2 q1)]; exact W)
    · rw [← hk2 1 a (by decide)]
      exact K h2 ρ2 L2 sz2 C2 (nlS nl) hc2 hf2 (fun g i hg => (hk2 g i hg).trans (hk g i hg)) (by rw [eS, eC]; exact Wa.1 ⟨ne, q1⟩)
theorem ag_s4 (hd : 3 ≤ d) (hE : eInj Γ) (ha : a < n) (W : WI S C n np nl T sz A dd noH 8 8) (hc : co Γ h x L ρ sz C) (hf : xt ρ0 h0 ρ h) (hk : kL8 L0 L) (hrc : 7 ≤ rc) (hrs : 35 ≤ rs)
    (K : ∀ (h : jm_H) (ρ : Nat → Nat) (L sz : Nat → Nat → Nat) (C : mS) (nl : Nat), co Γ h x L ρ sz C → xt ρ0 h0 ρ h → kL8 L0 L → WI (ag4 S a (N S 21 a)) C n np nl T sz A dd noH 8 8 → jm_W Γ m_B_again d (rc - 7) (rs - 35) Q 96 [some (.ref x), some (.int (nI a)), some (.ref (L 1 a))] [] h) :
    jm_W Γ m_B_again d rc rs Q 84 [some (.ref x), some (.int (nI a)), some (.ref (L 1 a))] [] h := by
  obtain ⟨w1, B, M, IXh, LVs, CDh, Z5h⟩ := id W
  have n8 := B.1.2.1
  have hs1 : sz 1 0 = n := M.1.2.2.2.2.2.1
  have ha1 : a < sz 1 0 := by rw [hs1]; exact ha
  obtain ⟨⟨s, hs3, hs4⟩, -, -, -⟩ := stg_ix M n8 ha
  have hn34 := M.1.2.2.1
  have hs8 := M.1.2.2.2.2.2.2.2
  have h20 := B.1.2.2.2.2.2.1
  have Wa := ag4_W W ha
  refine jm_aload_n d_B_again_84 rfl ?_
  refine cr_t59 a d_B_again_85 f_B_201 hc ha1 (fun v9 hT9 => ?_)
  rcases hT9 with ⟨hw9, rfl⟩ | ⟨r9, n9, rfl, hw9, hn9, -⟩
  · refine jm_ifnullN 96 d_B_again_88 (by decide) ?_
    exact jm_W.room (Nat.sub_le _ _) (Nat.sub_le _ _) <| K h ρ L sz C nl hc hf hk (by rw [Wa.2 hw9]; exact W)
  · refine jm_ifnull d_B_again_88 ?_
    have ne : C 59 a ≠ -1 := by rw [hw9]; exact nI_m1 (by omega)
    obtain ⟨W4, x1, x2, x3, x4⟩ := Wa.1 ne
    refine jm_aload_n d_B_again_91 rfl ?_
    refine jm_aload_n d_B_again_92 rfl ?_
    refine cr_call (r := ("BargainTree", jm_F0, 9)) (As := [_]) d_B_again_93 l_B_204 iw_B_sendChoices ew_B_sendChoices rfl nv_B_sendChoices rfl (hc.1 1 0 rfl).1 (Nat.le_of_ble_eq_true rfl) (by omega : 2 + 1 ≤ _) (by omega) (by omega) (k_B_sendChoices (a := a) (nl := nl) (cc := N S 21 a) (by omega) ha1 hn34 hs8 h20 x1 x2 x3 ne x4) hc hf (fun X L' sz' C' q => by cases q.1) (fun v L2 ρ2 sz2 C2 h2 hq hc2 hf2 _ => ?_)
    obtain ⟨e0, hk2, eS, eC⟩ := hq
    cases e0
    rw [← hk2 1 a (by decide)]
    exact K h2 ρ2 L2 sz2 C2 _ hc2 hf2 (fun g i hg => (hk2 g i hg).trans (hk g i hg)) (by rw [eS, eC]; exact W4)
end
section
variable {Γ : jm_G} {d x : Nat} {L sz : Nat → Nat → Nat} {S C : mS} {h : jm_H} {ρ : Nat → Nat} {n np nl T : Nat}
theorem k_B_again (hd : 8 ≤ d) (hE : eInj Γ) (hn1 : C 1 0 = nI n) (hS1 : S 1 0 = nI n) (hs1 : sz 1 0 = n) (h8 : n ≤ 8) (h60 : C 60 0 = (if S 2 0 = 0 then 1 else 0)) (hW : S 2 0 ≠ 0 → ∃ A dd, WI S C n np nl T sz A dd noH 8 8) {y : Int32} : cM Γ m_B_again d x [.ref x, .int y] L sz C 10 50 (fun oc L' sz' C' => (thAgain S y = 1 ∧ oc = .inr 0 ∧ L' = L ∧ sz' = sz ∧ C' = C) ∨ (thAgain S y = 2 ∧ oc = .inr 1 ∧ L' = L ∧ sz' = sz ∧ C' = C) ∨ (thAgain S y = 0 ∧ kL8 L L' ∧ ∃ a, a < n ∧ y = nI a ∧ ∃ nl' A dd, oc = .inl (some (.int (nI nl'))) ∧ WI (agS (mu S 0 0 0) a (N S 21 a)) C' n np nl' T sz' A dd noH 8 8)) := by
  intro h ρ hc
  have hf : xt ρ h ρ h := xt.rf
  refine jm_entry (by decide +kernel) (List.forall_mem_cons.mpr ⟨rfl, List.forall_mem_cons.mpr ⟨rfl, fun _ h => nomatch h⟩⟩) (Nat.le_of_ble_eq_true rfl) ?_
  show jm_W _ _ _ _ _ _ 0 [some (.ref x), some (.int y), none] [] _
  refine jm_aload_n d_B_again_0 rfl ?_
  refine jm_iload_n d_B_again_1 rfl ?_
  refine cr_callp (r := ("BargainTree", jm_F0, 9)) (As := [_]) d_B_again_2 l_B_69 iw_B_isAgent ew_B_isAgent rfl nv_B_isAgent rfl (hc.1 1 0 rfl).1 (Nat.le_of_ble_eq_true rfl) (by omega : 0 + 1 ≤ _) (k_B_isAgent _) hc ?_
  first | refine jm_bz_ne 18 d_B_again_5 (by decide) (fun hb5 => ?_) (fun hb5 => ?_) | refine jm_if_ne 18 d_B_again_5 (by decide) (fun hb5 => ?_) (fun hb5 => ?_)
  · refine jm_aload_n d_B_again_18 rfl ?_
    refine cr_get 60 0 d_B_again_19 f_B_31 hc rfl rfl rfl rfl (v := .int (C 60 0)) rfl ?_
    first | refine jm_bz_eq 35 d_B_again_22 (by decide) (fun hb22 => ?_) (fun hb22 => ?_) | refine jm_if_eq 35 d_B_again_22 (by decide) (fun hb22 => ?_) (fun hb22 => ?_)
    · obtain ⟨a, han, rfl⟩ := agC_ix hn1 h8 hb5
      have s2 : S 2 0 ≠ 0 := fun z => by
        have : C 60 0 = 1 := by rw [h60, if_pos z]
        rw [this] at hb22; exact absurd hb22 (by decide)
      have th0 : thAgain S (nI a) = 0 := by unfold thAgain thF; rw [if_neg (not_not_intro ((ag_same hn1 hS1 h8 _).mp hb5)), if_neg s2]
      obtain ⟨A, dd, W⟩ := hW s2
      have W0 := WI_0 (y := 0) W
      have ha1 : a < sz 1 0 := by omega
      refine jm_aload_n d_B_again_35 rfl ?_
      refine cr_get 78 0 d_B_again_36 f_B_11 hc rfl rfl rfl rfl (v := .ref (L 0 0)) rfl ?_
      refine jm_iload_n d_B_again_39 rfl ?_
      refine cr_ald 3 70 a (e := a) d_B_again_40 (by decide) rfl hc (show a < sz 1 0 by omega) rfl rfl rfl rfl (by have := hc.B.1; omega) (by decide) (v := .ref (L 1 a)) rfl ?_
      refine jm_astore_n d_B_again_41 (Nat.le_of_ble_eq_true rfl) ?_
      refine ag_s1 (by omega) hE han W0 hc hf (fun _ _ _ => rfl) (by omega) (by omega) (fun h ρ L1 sz1 C1 nl1 hc hf hk W1 => ?_)
      refine ag_s2 (by omega) hE han W1 hc hf hk (by omega) (by omega) (fun h ρ L1 sz1 C1 nl1 hc hf hk W1 => ?_)
      refine ag_s3 (by omega) hE han W1 hc hf hk (by omega) (by omega) (fun h ρ L1 sz1 C1 nl1 hc hf hk W1 => ?_)
      refine ag_s4 (by omega) hE han W1 hc hf hk (by omega) (by omega) (fun h ρ L1 sz1 C1 nl1 hc hf hk W1 => ?_)
      have e21 : N (ag3 (ag2 (ag1 (mu S 0 0 0) a) a) a) 21 a = N S 21 a := by
        have r1 : (ag1 (mu S 0 0 0) a) 21 = S 21 := by
          unfold ag1; split
          · exact mu_row (by decide)
          · rw [pst_lo (by decide)]; exact mu_row (by decide)
        have r2 : (ag2 (ag1 (mu S 0 0 0) a) a) 21 = S 21 := by
          unfold ag2; split
          · exact r1
          · rw [pst_lo (by decide)]; exact r1
        have r3 : (ag3 (ag2 (ag1 (mu S 0 0 0) a) a) a) 21 = S 21 := by
          unfold ag3; split
          · exact r2
          · rw [pt_lo (by decide)]; exact r2
        simp only [N, r3]
      rw [e21] at W1
      refine jm_aload_n d_B_again_96 rfl ?_
      refine cr_get 34 0 d_B_again_97 f_B_139 hc rfl rfl rfl rfl (v := .int (nI nl1)) (by show Value.int (C1 34 0) = _; rw [W1.2.2.1.1.2.2.1]) ?_
      exact jm_iret d_B_again_100 rfl ⟨L1, ρ, sz1, C1, Or.inr (Or.inr ⟨th0, hk, a, han, rfl, nl1, A, dd, rfl, W1⟩), hc, hf⟩
    · exact jm_throw (tx := "not started") d_B_again_25 d_B_again_28 d_B_again_29 d_B_again_31 d_B_again_34 x_1 (by decide +kernel) rfl (by omega) (by omega) (by simp; omega) (by decide) (Nat.le_of_ble_eq_true rfl) ⟨L, ρ, sz, C, Or.inr (Or.inl ⟨by unfold thAgain thF; rw [if_neg (not_not_intro ((ag_same hn1 hS1 h8 _).mp hb5)), if_pos (Decidable.byContradiction (fun z => hb22 (by rw [h60, if_neg z])))], rfl, rfl, rfl, rfl⟩), hc, hf⟩
  · exact jm_throw (tx := "no such agent") d_B_again_8 d_B_again_11 d_B_again_12 d_B_again_14 d_B_again_17 x_0 (by decide +kernel) rfl (by omega) (by omega) (by simp; omega) (by decide) (Nat.le_of_ble_eq_true rfl) ⟨L, ρ, sz, C, Or.inl ⟨by unfold thAgain thF; rw [if_pos (fun z => hb5 ((ag_same hn1 hS1 h8 _).mpr z))], rfl, rfl, rfl, rfl⟩, hc, hf⟩
end
