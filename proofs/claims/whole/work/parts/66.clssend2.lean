/-! THE CLASS: sendChoices, takeOut. Written by wip/whole/gen/p66.py -/
section
variable {Γ : jm_G} {d : Nat} {h h0 : jm_H} {x : Nat} {L0 : Nat → Nat → Nat} {ρ0 : Nat → Nat} {sz0 : Nat → Nat → Nat} {C C0 : mS}
def snl (nl : Nat) : Nat → Nat
  | 0 => nl
  | k + 1 => nlS (snl nl k)
theorem snl_le {nl : Nat} (h : nl ≤ 20) : ∀ k, snl nl k ≤ 20
  | 0 => h
  | k + 1 => by
    have := snl_le h k
    show (if snl nl k < 20 then snl nl k + 1 else snl nl k) ≤ 20
    split <;> omega
theorem sndC_row {nl j : Nat} {a b c e w : Int32} {f : Nat → Int32} (hj : j ≠ 34) (h1 : j ≠ 35) (h2 : j ≠ 36) (h3 : j ≠ 37) (h4 : j ≠ 38) (h5 : j ≠ 67) (h6 : j ≠ 68) : sndC C nl a b c e w f j = C j := by
  unfold sndC
  split
  · funext i; simp [ltS, tbS, mu, hj, h1, h2, h3, h4, h5, h6]
  · rfl
theorem sndC_34 {nl : Nat} {a b c e w : Int32} {f : Nat → Int32} (h : C 34 0 = nI nl) : sndC C nl a b c e w f 34 0 = nI (nlS nl) := by
  unfold sndC nlS
  split
  · exact mu_same
  · exact h
/-- a's choices sent to the first k children -/
def scC (C : mS) (a nl : Nat) : Nat → mS
  | 0 => C
  | k + 1 => sndC (scC C a nl k) (snl nl k) 3 (nI a) (C 53 (8 * a + k)) (C 28 a) (C 59 a) (fun i => C 66 (256 * a + i))
theorem scC_row {a nl j : Nat} (hj : j ≠ 34) (h1 : j ≠ 35) (h2 : j ≠ 36) (h3 : j ≠ 37) (h4 : j ≠ 38) (h5 : j ≠ 67) (h6 : j ≠ 68) : ∀ k, scC C a nl k j = C j
  | 0 => rfl
  | k + 1 => by rw [scC, sndC_row hj h1 h2 h3 h4 h5 h6, scC_row hj h1 h2 h3 h4 h5 h6 k]
theorem scC_34 {a nl : Nat} (h : C 34 0 = nI nl) : ∀ k, scC C a nl k 34 0 = nI (snl nl k)
  | 0 => h
  | k + 1 => sndC_34 (scC_34 h k)
theorem lp_B_sendChoices {a nl cc : Nat} (hd : 2 ≤ d) (ha : a < sz0 1 0) (hn0 : C0 34 0 = nI nl) (h20 : nl ≤ 20) (h52 : C0 52 a = nI cc) (h4 : sz0 4 a = cc) (hcc : cc ≤ 7) (h59 : C0 59 a ≠ -1) (h53 : ∀ k, k < cc → ∃ b, b < sz0 1 0 ∧ C0 53 (8 * a + k) = nI b) :
    ∀ j k, k + j = cc → ∀ {h : jm_H} {ρ : Nat → Nat} {L sz : Nat → Nat → Nat} {C : mS} {rc rs : Nat}, j ≤ rc → 5 * j ≤ rs → co Γ h x L ρ sz C → xt ρ0 h0 ρ h → kL8 L0 L → sz = lu sz0 8 0 (snl nl k) → C = scC C0 a nl k →
      jm_W Γ m_B_sendChoices d rc rs (fun oc h' => ∃ L' ρ' sz' C', (oc = .inl none ∧ kL8 L0 L' ∧ sz' = lu sz0 8 0 (snl nl cc) ∧ C' = scC C0 a nl cc) ∧ co Γ h' x L' ρ' sz' C' ∧ xt ρ0 h0 ρ' h') 2 [some (.ref x), some (.ref (L 1 a)), some (.int (nI k))] [] h := by
  intro j
  induction j with
  | zero =>
    intro k hk h ρ L sz C rc rs hrc hrs hc hf hkL eS eC
    have ek : k = cc := by omega
    have ha : a < sz 1 0 := by rw [eS]; exact ha
    have e52 : C 52 a = nI cc := by rw [eC, scC_row (by decide) (by decide) (by decide) (by decide) (by decide) (by decide) (by decide), h52]
    refine jm_iload_n d_B_sendChoices_2 rfl ?_
    refine jm_aload_n d_B_sendChoices_3 rfl ?_
    refine cr_get 52 a d_B_sendChoices_4 f_B_347 hc (show a < sz 1 0 by omega) rfl rfl rfl (v := .int (C 52 a)) rfl ?_
    rw [e52]
    refine jm_icmp_ge 52 d_B_sendChoices_7 (by decide) (fun hb7 => ?_) (fun hb7 => ?_)
    · exact jm_vret d_B_sendChoices_52 rfl ⟨L, ρ, sz, C, ⟨rfl, hkL, by rw [eS, ek], by rw [eC, ek]⟩, hc, hf⟩
    · exact absurd (nI_le (by omega) (by omega)) hb7
  | succ j ih =>
    intro k hk h ρ L sz C rc rs hrc hrs hc hf hkL eS eC
    have ha : a < sz 1 0 := by rw [eS]; exact ha
    have row : ∀ q, q ≠ 34 → q ≠ 35 → q ≠ 36 → q ≠ 37 → q ≠ 38 → q ≠ 67 → q ≠ 68 → C q = C0 q := fun q h1 h2 h3 h4 h5 h6 h7 => by rw [eC, scC_row h1 h2 h3 h4 h5 h6 h7]
    have e52 : C 52 a = nI cc := by rw [row 52 (by decide) (by decide) (by decide) (by decide) (by decide) (by decide) (by decide), h52]
    have e59 : C 59 a ≠ -1 := by rw [row 59 (by decide) (by decide) (by decide) (by decide) (by decide) (by decide) (by decide)]; exact h59
    have hz4 : sz 4 a = cc := by rw [eS]; exact h4
    obtain ⟨b, hb, e53'⟩ := h53 k (by omega)
    have e53 : C 53 (8 * a + k) = nI b := by rw [row 53 (by decide) (by decide) (by decide) (by decide) (by decide) (by decide) (by decide), e53']
    have hb : b < sz 1 0 := by rw [eS]; exact hb
    have hs : sz 8 0 = snl nl k := by rw [eS]; exact lu_eq
    have hn : C 34 0 = nI (snl nl k) := by rw [eC]; exact scC_34 hn0 k
    have h20 := snl_le h20 k
    have hb8 : b < 8 := by have := hc.B.1; omega
    have hk7 : k < 7 := by omega
    refine jm_iload_n d_B_sendChoices_2 rfl ?_
    refine jm_aload_n d_B_sendChoices_3 rfl ?_
    refine cr_get 52 a d_B_sendChoices_4 f_B_347 hc (show a < sz 1 0 by omega) rfl rfl rfl (v := .int (C 52 a)) rfl ?_
    rw [e52]
    refine jm_icmp_ge 52 d_B_sendChoices_7 (by decide) (fun hb7 => ?_) (fun hb7 => ?_)
    · exact absurd hb7 (nI_ge (by omega) (by omega))
    · refine jm_aload_n d_B_sendChoices_10 rfl ?_
      refine jm_newobj (ci := 5) (N := 5) (dv := fun j => defaultValue (jm_Y5 j)) d_B_sendChoices_11 rfl c_B_21 n_L z_L jm_Y5 jm_yok5 (fun _ _ => rfl) (by omega) (by omega) (fun q hq9 => ?_)
      have hc := co_nw (kn := (5, 0)) (dv := fun j => defaultValue (jm_Y5 j)) hc hq9 6
      obtain ⟨hf, hq0⟩ := xt_nw (kn := (5, 0)) (dv := fun j => defaultValue (jm_Y5 j)) hf hq9 6
      have kq : (jm_new h q (5, 0) (fun j => defaultValue (jm_Y5 j))).1 q = some (5, 0) := if_pos rfl
      refine jm_dup d_B_sendChoices_14 rfl ?_
      refine jm_iconstL (v := 3) d_B_sendChoices_15 (by decide) ?_
      refine jm_aload_n d_B_sendChoices_16 rfl ?_
      refine cr_getG 71 a d_B_sendChoices_17 f_B_294 hc (show a < sz 1 0 by omega) rfl rfl rfl (v := .int (nI a)) rfl ?_
      refine jm_aload_n d_B_sendChoices_20 rfl ?_
      refine cr_getG 73 a d_B_sendChoices_21 f_B_350 hc (show a < sz 1 0 by omega) rfl rfl rfl (v := .ref (L 3 a)) rfl ?_
      refine jm_iload_n d_B_sendChoices_24 rfl ?_
      refine cr_aldS a k d_B_sendChoices_25 hc (by omega) (by omega) rfl ?_
      refine cr_getG 53 (8 * a + k) d_B_sendChoices_26 f_B_354 hc (cv_ch (show a < sz 1 0 by omega) (show k < sz 4 a by omega) hc.B) rfl rfl rfl (v := .ref (L 1 b)) (cE_53 e53 (by omega)) ?_
      refine cr_getG 71 b d_B_sendChoices_29 f_B_294 hc (show b < sz 1 0 by omega) rfl rfl rfl (v := .int (nI b)) rfl ?_
      refine jm_aload_n d_B_sendChoices_32 rfl ?_
      refine cr_get 28 a d_B_sendChoices_33 f_B_281 hc (show a < sz 1 0 by omega) rfl rfl rfl (v := .int (C 28 a)) rfl ?_
      refine jm_aload_n d_B_sendChoices_36 rfl ?_
      refine cr_t59 a d_B_sendChoices_37 f_B_201 hc (show a < sz 1 0 by omega) (fun v9 hT9 => ?_)
      have hT8 := hT9
      rcases hT9 with ⟨hw9, -⟩ | ⟨r9, n9, rfl, -⟩
      · exact absurd hw9 e59
      have hT9 := hT8
      refine jm_callI (As := [_, _, _, _, _]) d_B_sendChoices_40 rfl rfl rfl l_B_376 iw_L_init nv_L_init rfl (Nat.le_of_ble_eq_true rfl) (by omega : 1 + 1 ≤ _) (by omega) (by omega) (k_L_init (by omega) kq) (fun v h' hq' => ?_) (fun X h' hq' => by cases hq'.1)
      obtain ⟨e0, rfl⟩ := hq'
      cases e0
      obtain ⟨hc, hf, hL⟩ := co_lm hc hf rl_eq hq0 kq hT9
      refine jm_callV (r := ("BargainTree", jm_F0, 9)) (As := [_]) d_B_sendChoices_43 l_B_379 iw_B_send ew_B_send rfl nv_B_send rfl (hc.1 1 0 rfl).1 (Nat.le_of_ble_eq_true rfl) (by omega : 0 + 1 ≤ _) (by omega) (by omega) (k_B_send hn hs h20 hc hL) (fun v h' hq' => ?_) (fun X h' hq' => by cases hq'.1)
      obtain ⟨e0, L', ρ', hk, hc', hf'⟩ := hq'
      cases e0
      have hf := hf.tr hf'
      have ih' := ih (k + 1) (by omega) (h := h') (ρ := ρ') (L := L') (sz := lu sz 8 0 (nlS (snl nl k))) (rc := rc - 1) (rs := rs - 5) (by omega) (by omega) hc' hf (fun g i hg => (hk g i hg).trans (hkL g i hg)) (by
        rw [eS]
        funext g i
        unfold lu
        split <;> rfl) (by
        rw [scC, row 28 (by decide) (by decide) (by decide) (by decide) (by decide) (by decide) (by decide), row 59 (by decide) (by decide) (by decide) (by decide) (by decide) (by decide) (by decide), row 66 (by decide) (by decide) (by decide) (by decide) (by decide) (by decide) (by decide), e53', ← eC])
      rw [hk 1 a (by decide)] at ih'
      refine jm_iincL (v := nI (k + 1)) d_B_sendChoices_46 rfl (by rw [nI_succ]; rfl) ?_
      refine jm_goto 2 d_B_sendChoices_49 (by decide) ?_
      exact ih'
end
section
variable {Γ : jm_G} {d x : Nat} {L sz : Nat → Nat → Nat} {C : mS} {h : jm_H} {ρ : Nat → Nat}
theorem k_B_sendChoices {a nl cc : Nat} (hd : 2 ≤ d) (ha : a < sz 1 0) (hn : C 34 0 = nI nl) (hs : sz 8 0 = nl) (h20 : nl ≤ 20) (h52 : C 52 a = nI cc) (h4 : sz 4 a = cc) (hcc : cc ≤ 7) (h59 : C 59 a ≠ -1) (h53 : ∀ k, k < cc → ∃ b, b < sz 1 0 ∧ C 53 (8 * a + k) = nI b) :
    cM Γ m_B_sendChoices d x [.ref x, .ref (L 1 a)] L sz C 7 35 (fun oc L' sz' C' => oc = .inl none ∧ kL8 L L' ∧ sz' = lu sz 8 0 (snl nl cc) ∧ C' = scC C a nl cc) := by
  intro h ρ hc
  have hf : xt ρ h ρ h := xt.rf
  refine jm_entry (by decide +kernel) (List.forall_mem_cons.mpr ⟨rfl, List.forall_mem_cons.mpr ⟨rfl, fun _ h => nomatch h⟩⟩) (Nat.le_of_ble_eq_true rfl) ?_
  show jm_W _ _ _ _ _ _ 0 [some (.ref x), some (.ref (L 1 a)), none] [] _
  refine jm_iconstL (v := nI 0) d_B_sendChoices_0 (by decide) ?_
  refine jm_istore_n d_B_sendChoices_1 (Nat.le_of_ble_eq_true rfl) ?_
  exact lp_B_sendChoices hd ha hn h20 h52 h4 hcc h59 h53 cc 0 (by omega) (by omega) (by omega) hc hf (fun _ _ _ => rfl) (lu_id hs).symm rfl
end
section
variable {Γ : jm_G} {d : Nat} {h h0 : jm_H} {x : Nat} {L0 : Nat → Nat → Nat} {ρ0 : Nat → Nat} {sz : Nat → Nat → Nat} {C C0 : mS}
/-- letters k + 1 to k + m moved down by one -/
def tkC (C : mS) (k : Nat) : Nat → mS
  | 0 => C
  | m + 1 => ltS (tkC C k m) (k + m) (tkC C k m 35 (k + m + 1)) (tkC C k m 36 (k + m + 1)) (tkC C k m 37 (k + m + 1)) (tkC C k m 38 (k + m + 1)) (tkC C k m 67 (k + m + 1)) (fun i => tkC C k m 68 (256 * (k + m + 1) + i))
theorem tkC_row {k j : Nat} (h1 : j ≠ 35) (h2 : j ≠ 36) (h3 : j ≠ 37) (h4 : j ≠ 38) (h5 : j ≠ 67) (h6 : j ≠ 68) : ∀ m, tkC C k m j = C j
  | 0 => rfl
  | m + 1 => by
    rw [tkC]
    funext i
    simp [ltS, tbS, mu, h1, h2, h3, h4, h5, h6]
    rw [tkC_row h1 h2 h3 h4 h5 h6 m]
theorem lp_B_takeOut {k nl : Nat} (hs : sz 8 0 = nl) (h20 : nl ≤ 20) (hk : k < nl) (hn0 : C0 34 0 = nI (nl - 1)) :
    ∀ j m, k + m + j = nl - 1 → ∀ {h : jm_H} {ρ : Nat → Nat} {L : Nat → Nat → Nat} {C : mS} {rc rs : Nat}, co Γ h x L ρ sz C → xt ρ0 h0 ρ h → kL8 L0 L → C = tkC C0 k m →
      jm_W Γ m_B_takeOut d rc rs (fun oc h' => ∃ L' ρ' sz' C', (oc = .inl none ∧ kL8 L0 L' ∧ sz' = lu sz 8 0 (nl - 1) ∧ C' = tkC C0 k (nl - 1 - k)) ∧ co Γ h' x L' ρ' sz' C' ∧ xt ρ0 h0 ρ' h') 12 [some (.ref x), some (.int (nI k)), some (.int (nI (k + m)))] [] h := by
  intro j
  induction j with
  | zero =>
    intro m hm h ρ L C rc rs hc hf hkL eC
    have e34 : C 34 0 = nI (nl - 1) := by rw [eC, tkC_row (by decide) (by decide) (by decide) (by decide) (by decide) (by decide), hn0]
    refine jm_iload_n d_B_takeOut_12 rfl ?_
    refine jm_aload_n d_B_takeOut_13 rfl ?_
    refine cr_get 34 0 d_B_takeOut_14 f_B_139 hc rfl rfl rfl rfl (v := .int (C 34 0)) rfl ?_
    rw [e34]
    refine jm_icmp_ge 40 d_B_takeOut_17 (by decide) (fun hb17 => ?_) (fun hb17 => ?_)
    · refine jm_aload_n d_B_takeOut_40 rfl ?_
      refine cr_get 80 0 d_B_takeOut_41 f_B_23 hc rfl rfl rfl rfl (v := .ref (L 0 2)) rfl ?_
      refine jm_aload_n d_B_takeOut_44 rfl ?_
      refine cr_get 34 0 d_B_takeOut_45 f_B_139 hc rfl rfl rfl rfl (v := .int (C 34 0)) rfl ?_
      rw [e34]
      refine jm_null d_B_takeOut_48 ?_
      refine jm_aastoreN 5 d_B_takeOut_49 (by decide) hc.2.1.2.2.2.2.1 (vp_in_nI (show nl - 1 < 20 by omega) (by decide)) rfl ?_
      rw [nI_clamp (show nl - 1 < 2 ^ 31 by omega)]
      obtain ⟨hc, hf⟩ := co_ls (v := .null) (m := nl - 1) hc hf (by omega) (Nat.le_refl _)
      exact jm_vret d_B_takeOut_50 rfl ⟨_, _, _, _, ⟨rfl, hkL, rfl, by rw [eC, show m = nl - 1 - k by omega]⟩, hc, hf⟩
    · exact absurd (nI_le (by omega) (by omega)) hb17
  | succ j ih =>
    intro m hm h ρ L C rc rs hc hf hkL eC
    have e34 : C 34 0 = nI (nl - 1) := by rw [eC, tkC_row (by decide) (by decide) (by decide) (by decide) (by decide) (by decide), hn0]
    refine jm_iload_n d_B_takeOut_12 rfl ?_
    refine jm_aload_n d_B_takeOut_13 rfl ?_
    refine cr_get 34 0 d_B_takeOut_14 f_B_139 hc rfl rfl rfl rfl (v := .int (C 34 0)) rfl ?_
    rw [e34]
    refine jm_icmp_ge 40 d_B_takeOut_17 (by decide) (fun hb17 => ?_) (fun hb17 => ?_)
    · exact absurd hb17 (nI_ge (by omega) (by omega))
    · refine jm_aload_n d_B_takeOut_20 rfl ?_
      refine cr_get 80 0 d_B_takeOut_21 f_B_23 hc rfl rfl rfl rfl (v := .ref (L 0 2)) rfl ?_
      refine jm_iload_n d_B_takeOut_24 rfl ?_
      refine jm_aload_n d_B_takeOut_25 rfl ?_
      refine cr_get 80 0 d_B_takeOut_26 f_B_23 hc rfl rfl rfl rfl (v := .ref (L 0 2)) rfl ?_
      refine jm_iload_n d_B_takeOut_29 rfl ?_
      refine jm_iconstL (v := 1) d_B_takeOut_30 (by decide) ?_
      refine jm_iadd d_B_takeOut_31 ?_
      rw [nI_1]
      refine cr_ald 5 77 (k + m + 1) (e := k + m + 1) d_B_takeOut_32 (by decide) rfl hc (show k + m + 1 < sz 8 0 by omega) rfl rfl rfl rfl (by omega) (by decide) (v := .ref (L 8 (k + m + 1))) rfl ?_
      have hL := hc.2.2.2.2.1 (k + m + 1) (by omega)
      refine jm_aastore 5 d_B_takeOut_33 (by decide) hc.2.1.2.2.2.2.1 (vp_in_nI (show k + m < 20 by omega) (by decide)) hL.1 rfl rfl ?_
      rw [nI_clamp (show k + m < 2 ^ 31 by omega)]
      obtain ⟨hc, hf⟩ := co_la hc hf (show k + m ≤ sz 8 0 by omega) (by omega) hL
      rw [if_pos (show k + m < sz 8 0 by omega), lu_id rfl] at hc
      refine jm_iincL (v := nI (k + (m + 1))) d_B_takeOut_34 rfl (by rw [← Nat.add_assoc, nI_succ]; rfl) ?_
      refine jm_goto 12 d_B_takeOut_37 (by decide) ?_
      exact ih (m + 1) (by omega) hc hf (fun g i hg => (if_neg (fun z => hg z.1)).trans (hkL g i hg)) (by rw [tkC, ← eC])
end
section
variable {Γ : jm_G} {d x : Nat} {L sz : Nat → Nat → Nat} {C : mS} {h : jm_H} {ρ : Nat → Nat}
theorem k_B_takeOut {k nl : Nat} (hn : C 34 0 = nI nl) (hs : sz 8 0 = nl) (h20 : nl ≤ 20) (hk : k < nl) : cM Γ m_B_takeOut d x [.ref x, .int (nI k)] L sz C 0 0 (fun oc L' sz' C' => oc = .inl none ∧ kL8 L L' ∧ sz' = lu sz 8 0 (nl - 1) ∧ C' = tkC (mu C 34 0 (nI (nl - 1))) k (nl - 1 - k)) := by
  intro h ρ hc
  have hf : xt ρ h ρ h := xt.rf
  refine jm_entry (by decide +kernel) (List.forall_mem_cons.mpr ⟨rfl, List.forall_mem_cons.mpr ⟨rfl, fun _ h => nomatch h⟩⟩) (Nat.le_of_ble_eq_true rfl) ?_
  show jm_W _ _ _ _ _ _ 0 [some (.ref x), some (.int (nI k)), none] [] _
  refine jm_aload_n d_B_takeOut_0 rfl ?_
  refine jm_dup d_B_takeOut_1 rfl ?_
  refine cr_get 34 0 d_B_takeOut_2 f_B_139 hc rfl rfl rfl rfl (v := .int (C 34 0)) rfl ?_
  rw [hn]
  refine jm_iconstL (v := 1) d_B_takeOut_5 (by decide) ?_
  refine jm_isub d_B_takeOut_6 ?_
  have e1 : nI nl - 1 = nI (nl - 1) := by rw [show nl = nl - 1 + 1 by omega, nI_pred]; rfl
  rw [e1]
  refine cr_put 34 0 _ d_B_takeOut_7 f_B_139 hc hf rfl rfl rfl rfl (by decide) (by decide) rfl rfl rfl (fun h hc hf => ?_)
  refine jm_iload_n d_B_takeOut_10 rfl ?_
  refine jm_istore_n d_B_takeOut_11 (Nat.le_of_ble_eq_true rfl) ?_
  exact lp_B_takeOut hs h20 hk mu_same (nl - 1 - k) 0 (by omega) hc hf (fun _ _ _ => rfl) rfl
end
