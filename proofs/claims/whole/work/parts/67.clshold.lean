/-! THE CLASS: addChild, findSeparator, hold. Written by wip/whole/gen/p67.py -/
section
variable {Γ : jm_G} {d : Nat} {h h0 : jm_H} {x : Nat} {L : Nat → Nat → Nat} {ρ ρ0 : Nat → Nat} {sz : Nat → Nat → Nat} {C C0 : mS}
abbrev kL4 (L L' : Nat → Nat → Nat) : Prop := ∀ g i, g ≠ 4 → L' g i = L g i
abbrev kL (L L' : Nat → Nat → Nat) : Prop := ∀ g i, g ≠ 8 → g ≠ 4 → L' g i = L g i
abbrev adC (C : mS) (a k b : Nat) : mS := mu (mu (mu (mu C 53 (8 * a + k) (nI b)) 54 (8 * a + k) 0) 55 (8 * a + k) (-1)) 52 a (nI (k + 1))
end
section
variable {Γ : jm_G} {d x : Nat} {L sz : Nat → Nat → Nat} {C : mS} {h : jm_H} {ρ : Nat → Nat}
theorem k_A_addChild {a b k : Nat} (hd : 2 ≤ d) (ha : a < sz 1 0) (hb : b < sz 1 0) (h52 : C 52 a = nI k) (h4 : sz 4 a = k) (hk : k < 7) : cM Γ m_A_addChild d x [.ref (L 1 a), .ref (L 1 b)] L sz C 1 3 (fun oc L' sz' C' => oc = .inl none ∧ kL4 L L' ∧ sz' = lu sz 4 a (k + 1) ∧ C' = adC C a k b) := by
  intro h ρ hc
  have hf : xt ρ h ρ h := xt.rf
  have h8 := hc.B.1
  refine jm_entry (by decide +kernel) (List.forall_mem_cons.mpr ⟨rfl, List.forall_mem_cons.mpr ⟨rfl, fun _ h => nomatch h⟩⟩) (Nat.le_of_ble_eq_true rfl) ?_
  show jm_W _ _ _ _ _ _ 0 [some (.ref (L 1 a)), some (.ref (L 1 b))] [] _
  refine jm_aload_n d_A_addChild_0 rfl ?_
  refine cr_get 52 a d_A_addChild_1 f_A_62 hc (show a < sz 1 0 by omega) rfl rfl rfl (v := .int (C 52 a)) rfl ?_
  refine jm_aload_n d_A_addChild_4 rfl ?_
  refine cr_get 73 a d_A_addChild_5 f_A_17 hc (show a < sz 1 0 by omega) rfl rfl rfl (v := .ref (L 3 a)) rfl ?_
  refine jm_alen 6 d_A_addChild_8 (by decide) (hc.2.1.2.2.2.2.2.2 a (by omega)).1 ?_
  rw [h52]
  refine jm_icmp_ge 39 d_A_addChild_9 (by decide) (fun hb9 => ?_) (fun hb9 => ?_)
  · exact absurd hb9 (nI_ge (by omega) (by omega))
  · refine jm_aload_n d_A_addChild_12 rfl ?_
    refine cr_get 73 a d_A_addChild_13 f_A_17 hc (show a < sz 1 0 by omega) rfl rfl rfl (v := .ref (L 3 a)) rfl ?_
    refine jm_aload_n d_A_addChild_16 rfl ?_
    refine cr_get 52 a d_A_addChild_17 f_A_62 hc (show a < sz 1 0 by omega) rfl rfl rfl (v := .int (C 52 a)) rfl ?_
    rw [h52]
    refine jm_newobj (ci := 3) (N := 3) (dv := fun j => defaultValue (jm_Y3 j)) d_A_addChild_20 rfl c_A_15 n_C z_C jm_Y3 jm_yok3 (fun _ _ => rfl) (by omega) (by omega) (fun q hq9 => ?_)
    have hc := co_nw (kn := (3, 0)) (dv := fun j => defaultValue (jm_Y3 j)) hc hq9 6
    obtain ⟨hf, hq0⟩ := xt_nw (kn := (3, 0)) (dv := fun j => defaultValue (jm_Y3 j)) hf hq9 6
    have kq : (jm_new h q (3, 0) (fun j => defaultValue (jm_Y3 j))).1 q = some (3, 0) := if_pos rfl
    refine jm_dup d_A_addChild_23 rfl ?_
    refine jm_aload_n d_A_addChild_24 rfl ?_
    refine jm_callI (As := [_]) d_A_addChild_25 rfl rfl rfl l_A_65 iw_C_init nv_C_init rfl (Nat.le_of_ble_eq_true rfl) (by omega : 1 + 1 ≤ _) (by omega) (by omega) (k_C_init (by omega) kq) (fun v h' hq' => ?_) (fun X h' hq' => by cases hq'.1)
    obtain ⟨e0, rfl⟩ := hq'
    cases e0
    have hc := co_wp (t := 3) (i := 0) (v := .ref (L 1 b)) hc rl_eq
    have hf := xt_wp (t := 3) (i := 0) (v := .ref (L 1 b)) hf hq0
    refine jm_aastore 6 d_A_addChild_28 (by decide) (hc.2.1.2.2.2.2.2.2 a (by omega)).1 (vp_in_nI hk (by decide)) kq rfl rfl ?_
    rw [nI_clamp (show k < 2 ^ 31 by omega)]
    obtain ⟨hc, hf⟩ := co_cd (b := b) hc hf hq0 rl_eq kq (by simp [jm_set]) (by simp [jm_set, jm_new]; rfl) (by simp [jm_set, jm_new]; rfl) ha h4 hk (by omega)
    have e52 : (mu (mu (mu C 53 (8 * a + k) (nI b)) 54 (8 * a + k) 0) 55 (8 * a + k) (-1)) 52 a = nI k := by rw [mu_row (by decide), mu_row (by decide), mu_row (by decide), h52]
    have ha' : a < lu sz 4 a (k + 1) 1 0 := ha
    have hk4 : kL4 L (lu L 4 (8 * a + k) q) := fun g i hg => if_neg (fun z => hg z.1)
    rw [← show lu L 4 (8 * a + k) q 1 a = L 1 a from hk4 1 a (by decide)]
    generalize lu L 4 (8 * a + k) q = L2 at hc hk4 ⊢
    refine jm_aload_n d_A_addChild_29 rfl ?_
    refine jm_dup d_A_addChild_30 rfl ?_
    refine cr_get 52 a d_A_addChild_31 f_A_62 hc ha' rfl rfl rfl (v := .int (nI k)) (by show Value.int ((mu (mu (mu C 53 (8 * a + k) (nI b)) 54 (8 * a + k) 0) 55 (8 * a + k) (-1)) 52 a) = _; rw [e52]) ?_
    refine jm_iconstL (v := 1) d_A_addChild_34 (by decide) ?_
    refine jm_iadd d_A_addChild_35 ?_
    rw [nI_1]
    refine cr_put 52 a _ d_A_addChild_36 f_A_62 hc hf ha' rfl rfl rfl (by decide) (by decide) rfl rfl rfl (fun h hc hf => ?_)
    exact jm_vret d_A_addChild_39 rfl ⟨_, _, _, _, ⟨rfl, hk4, rfl, rfl⟩, hc, hf⟩
end
section
variable {Γ : jm_G} {d : Nat} {h h0 : jm_H} {x : Nat} {L : Nat → Nat → Nat} {ρ ρ0 : Nat → Nat} {sz : Nat → Nat → Nat} {C C0 : mS}
theorem lp_A_findSep {a cc : Nat} (ha : a < sz 1 0) (h8 : sz 1 0 ≤ 8) (h52 : C0 52 a = nI cc) (h4 : sz 4 a = cc) (hcc : cc ≤ 7) (h53 : ∀ k, k < cc → ∃ b, b < sz 1 0 ∧ b ≠ a ∧ C0 53 (8 * a + k) = nI b) :
    ∀ j k, k + j = cc → ∀ {h : jm_H} {ρ : Nat → Nat} {C : mS} {rc rs : Nat}, co Γ h x L ρ sz C → xt ρ0 h0 ρ h → C = mu C0 22 a (seR (C0 22) (C0 53) (C0 17 a) a k) →
      jm_W Γ m_A_findSeparator d rc rs (fun oc h' => ∃ L' ρ' sz' C', (oc = .inl none ∧ L' = L ∧ sz' = sz ∧ C' = mu C0 22 a (seR (C0 22) (C0 53) (C0 17 a) a cc &&& ((1 <<< (nI a &&& 31)) ^^^ -1))) ∧ co Γ h' x L' ρ' sz' C' ∧ xt ρ0 h0 ρ' h') 10 [some (.ref (L 1 a)), some (.int (nI k))] [] h := by
  intro j
  induction j with
  | zero =>
    intro k hk h ρ C rc rs hc hf eC
    have ek : k = cc := by omega
    have e52 : C 52 a = nI cc := by rw [eC, mu_row (by decide), h52]
    have e22 : C 22 a = seR (C0 22) (C0 53) (C0 17 a) a cc := by rw [eC, mu_same, ek]
    refine jm_iload_n d_A_findSeparator_10 rfl ?_
    refine jm_aload_n d_A_findSeparator_11 rfl ?_
    refine cr_get 52 a d_A_findSeparator_12 f_A_62 hc (show a < sz 1 0 by omega) rfl rfl rfl (v := .int (C 52 a)) rfl ?_
    rw [e52]
    refine jm_icmp_ge 45 d_A_findSeparator_15 (by decide) (fun hb15 => ?_) (fun hb15 => ?_)
    · refine jm_aload_n d_A_findSeparator_45 rfl ?_
      refine jm_dup d_A_findSeparator_46 rfl ?_
      refine cr_get 22 a d_A_findSeparator_47 f_A_77 hc (show a < sz 1 0 by omega) rfl rfl rfl (v := .int (C 22 a)) rfl ?_
      rw [e22]
      refine jm_iconstL (v := 1) d_A_findSeparator_50 (by decide) ?_
      refine jm_aload_n d_A_findSeparator_51 rfl ?_
      refine cr_get 71 a d_A_findSeparator_52 f_A_37 hc (show a < sz 1 0 by omega) rfl rfl rfl (v := .int (nI a)) rfl ?_
      refine jm_ishl d_A_findSeparator_55 ?_
      refine jm_iconstL (v := (-1)) d_A_findSeparator_56 (by decide) ?_
      refine jm_ixor d_A_findSeparator_57 ?_
      refine jm_iand d_A_findSeparator_58 ?_
      refine cr_put 22 a _ d_A_findSeparator_59 f_A_77 hc hf (show a < sz 1 0 by omega) rfl rfl rfl (by decide) (by decide) rfl rfl rfl (fun h hc hf => ?_)
      exact jm_vret d_A_findSeparator_62 rfl ⟨_, _, _, _, ⟨rfl, rfl, rfl, by rw [eC, mu_mu]⟩, hc, hf⟩
    · exact absurd (nI_le (by omega) (by omega)) hb15
  | succ j ih =>
    intro k hk h ρ C rc rs hc hf eC
    have e52 : C 52 a = nI cc := by rw [eC, mu_row (by decide), h52]
    have e22 : C 22 a = seR (C0 22) (C0 53) (C0 17 a) a k := by rw [eC, mu_same]
    obtain ⟨b, hb, hba, e53'⟩ := h53 k (by omega)
    have e53 : C 53 (8 * a + k) = nI b := by rw [eC, mu_row (by decide), e53']
    have b22 : C 22 b = C0 22 b := by rw [eC]; simp [mu, hba]
    refine jm_iload_n d_A_findSeparator_10 rfl ?_
    refine jm_aload_n d_A_findSeparator_11 rfl ?_
    refine cr_get 52 a d_A_findSeparator_12 f_A_62 hc (show a < sz 1 0 by omega) rfl rfl rfl (v := .int (C 52 a)) rfl ?_
    rw [e52]
    refine jm_icmp_ge 45 d_A_findSeparator_15 (by decide) (fun hb15 => ?_) (fun hb15 => ?_)
    · exact absurd hb15 (nI_ge (by omega) (by omega))
    · refine jm_aload_n d_A_findSeparator_18 rfl ?_
      refine jm_dup d_A_findSeparator_19 rfl ?_
      refine cr_get 22 a d_A_findSeparator_20 f_A_77 hc (show a < sz 1 0 by omega) rfl rfl rfl (v := .int (C 22 a)) rfl ?_
      refine jm_aload_n d_A_findSeparator_23 rfl ?_
      refine cr_get 73 a d_A_findSeparator_24 f_A_17 hc (show a < sz 1 0 by omega) rfl rfl rfl (v := .ref (L 3 a)) rfl ?_
      refine jm_iload_n d_A_findSeparator_27 rfl ?_
      refine cr_aldS a k d_A_findSeparator_28 hc (by omega) (by omega) rfl ?_
      refine cr_getG 53 (8 * a + k) d_A_findSeparator_29 f_A_68 hc (cv_ch (show a < sz 1 0 by omega) (show k < sz 4 a by omega) hc.B) rfl rfl rfl (v := .ref (L 1 b)) (cE_53 e53 (by omega)) ?_
      refine cr_get 22 b d_A_findSeparator_32 f_A_77 hc (show b < sz 1 0 by omega) rfl rfl rfl (v := .int (C 22 b)) rfl ?_
      rw [e22, b22]
      refine jm_ior d_A_findSeparator_35 ?_
      refine cr_put 22 a _ d_A_findSeparator_36 f_A_77 hc hf (show a < sz 1 0 by omega) rfl rfl rfl (by decide) (by decide) rfl rfl rfl (fun h hc hf => ?_)
      refine jm_iincL (v := nI (k + 1)) d_A_findSeparator_39 rfl (by rw [nI_succ]; rfl) ?_
      refine jm_goto 10 d_A_findSeparator_42 (by decide) ?_
      exact ih (k + 1) (by omega) hc hf (by rw [eC, mu_mu, seR, e53', nI_clamp (by omega)])
end
section
variable {Γ : jm_G} {d x : Nat} {L sz : Nat → Nat → Nat} {C : mS} {h : jm_H} {ρ : Nat → Nat}
theorem k_A_findSeparator {a cc : Nat} (ha : a < sz 1 0) (h52 : C 52 a = nI cc) (h4 : sz 4 a = cc) (hcc : cc ≤ 7) (h53 : ∀ k, k < cc → ∃ b, b < sz 1 0 ∧ b ≠ a ∧ C 53 (8 * a + k) = nI b) : cM Γ m_A_findSeparator d x [.ref (L 1 a)] L sz C 0 0 (fun oc L' sz' C' => oc = .inl none ∧ L' = L ∧ sz' = sz ∧ C' = mu C 22 a (seR (C 22) (C 53) (C 17 a) a cc &&& ((1 <<< (nI a &&& 31)) ^^^ -1))) := by
  intro h ρ hc
  have hf : xt ρ h ρ h := xt.rf
  refine jm_entry (by decide +kernel) (List.forall_mem_cons.mpr ⟨rfl, fun _ h => nomatch h⟩) (Nat.le_of_ble_eq_true rfl) ?_
  show jm_W _ _ _ _ _ _ 0 [some (.ref (L 1 a)), none] [] _
  refine jm_aload_n d_A_findSeparator_0 rfl ?_
  refine jm_aload_n d_A_findSeparator_1 rfl ?_
  refine cr_get 17 a d_A_findSeparator_2 f_A_74 hc (show a < sz 1 0 by omega) rfl rfl rfl (v := .int (C 17 a)) rfl ?_
  refine cr_put 22 a _ d_A_findSeparator_5 f_A_77 hc hf (show a < sz 1 0 by omega) rfl rfl rfl (by decide) (by decide) rfl rfl rfl (fun h hc hf => ?_)
  refine jm_iconstL (v := nI 0) d_A_findSeparator_8 (by decide) ?_
  refine jm_istore_n d_A_findSeparator_9 (Nat.le_of_ble_eq_true rfl) ?_
  exact lp_A_findSep ha hc.B.1 h52 h4 hcc h53 cc 0 (by omega) hc hf rfl
abbrev nxC (C : mS) (a n : Nat) : Int32 := (mjR (C 9) (C 9 a &&& (C 18 a ^^^ -1)) n).1
/-- a waits for a new child b -/
def hwC (C : mS) (a cc b nl : Nat) : mS := sndC (mu (mu (adC C a cc b) 51 a (nI b)) 50 a 1) nl 0 (nI a) (nI b) (C 18 a) (-1) (fun _ => 0)
abbrev thC (C : mS) (a cc : Nat) : mS := mu (mu C 50 a 2) 22 a (seR (C 22) (C 53) (C 17 a) a cc &&& ((1 <<< (nI a &&& 31)) ^^^ -1))
/-- a is through -/
def htC (C : mS) (a cc nl : Nat) : mS := if C 16 a = -1 then thC C a cc else sndC (thC C a cc) nl 1 (nI a) (C 16 a) (C 18 a) (-1) (fun _ => 0)
theorem mjR_ix {nb : Nat → Int32} {y : Int32} : ∀ k, (mjR nb y k).1 = -1 ∨ ∃ b, b < k ∧ (mjR nb y k).1 = nI b
  | 0 => Or.inl rfl
  | k + 1 => by
    rw [mjR]
    split
    · exact Or.inr ⟨k, Nat.lt_succ_self k, rfl⟩
    · rcases mjR_ix k with q | ⟨b, q1, q2⟩
      · exact Or.inl q
      · exact Or.inr ⟨b, by omega, q2⟩
theorem k_B_hold {n a cc nl : Nat} (hd : 3 ≤ d) (hn : C 1 0 = nI n) (hs : sz 1 0 = n) (h8 : n ≤ 8) (ha : a < sz 1 0) (h52 : C 52 a = nI cc) (h4 : sz 4 a = cc) (hcc : cc ≤ 7) (hc7 : nxC C a n ≠ -1 → cc < 7) (h53 : ∀ k, k < cc → ∃ b, b < sz 1 0 ∧ b ≠ a ∧ C 53 (8 * a + k) = nI b) (hn20 : C 34 0 = nI nl) (hs20 : sz 8 0 = nl) (h20 : nl ≤ 20) : cM Γ m_B_hold d x [.ref x, .ref (L 1 a)] L sz C 2 8 (fun oc L' sz' C' => (nxC C a n ≠ -1 ∧ oc = .inl (some (.int 0)) ∧ kL L L' ∧ ∃ b, b < n ∧ nxC C a n = nI b ∧ sz' = lu (lu sz 4 a (cc + 1)) 8 0 (nlS nl) ∧ C' = hwC C a cc b nl) ∨ (nxC C a n = -1 ∧ oc = .inl (some (.int (bz (haCR (C 55) a cc)))) ∧ kL L L' ∧ sz' = (if C 16 a = -1 then sz else lu sz 8 0 (nlS nl)) ∧ C' = htC C a cc nl)) := by
  intro h ρ hc
  have hf : xt ρ h ρ h := xt.rf
  refine jm_entry (by decide +kernel) (List.forall_mem_cons.mpr ⟨rfl, List.forall_mem_cons.mpr ⟨rfl, fun _ h => nomatch h⟩⟩) (Nat.le_of_ble_eq_true rfl) ?_
  show jm_W _ _ _ _ _ _ 0 [some (.ref x), some (.ref (L 1 a)), none] [] _
  refine jm_aload_n d_B_hold_0 rfl ?_
  refine jm_aload_n d_B_hold_1 rfl ?_
  refine cr_get 9 a d_B_hold_2 f_B_93 hc (show a < sz 1 0 by omega) rfl rfl rfl (v := .int (C 9 a)) rfl ?_
  refine jm_aload_n d_B_hold_5 rfl ?_
  refine cr_get 18 a d_B_hold_6 f_B_118 hc (show a < sz 1 0 by omega) rfl rfl rfl (v := .int (C 18 a)) rfl ?_
  refine jm_iconstL (v := (-1)) d_B_hold_9 (by decide) ?_
  refine jm_ixor d_B_hold_10 ?_
  refine jm_iand d_B_hold_11 ?_
  refine cr_callp (r := ("BargainTree", jm_F0, 9)) (As := [_]) d_B_hold_12 l_B_257 iw_B_mostJoined ew_B_mostJoined rfl nv_B_mostJoined rfl (hc.1 1 0 rfl).1 (Nat.le_of_ble_eq_true rfl) (by omega : 1 + 1 ≤ _) (k_B_mostJoined hn hs h8 (by omega) _) hc ?_
  refine jm_istore_n d_B_hold_15 (Nat.le_of_ble_eq_true rfl) ?_
  refine jm_iload_n d_B_hold_16 rfl ?_
  refine jm_iconstL (v := (-1)) d_B_hold_17 (by decide) ?_
  refine jm_icmp_eq 50 d_B_hold_18 (by decide) (fun hb18 => ?_) (fun hb18 => ?_)
  · refine jm_aload_n d_B_hold_50 rfl ?_
    refine jm_getE d_B_hold_51 (by decide) f_B_189 ?_
    refine cr_put 50 a 2 d_B_hold_54 f_B_176 hc hf (show a < sz 1 0 by omega) rfl rfl rfl (by decide) (by decide) rfl rfl rfl (fun h hc hf => ?_)
    refine jm_aload_n d_B_hold_57 rfl ?_
    refine cr_call (r := ("BargainTree$Agent", jm_F1, 18)) (As := []) d_B_hold_58 l_B_314 iw_A_findSeparator ew_A_findSeparator rfl nv_A_findSeparator rfl (hc.1 3 a (show a < sz 1 0 by omega)).1 (Nat.le_of_ble_eq_true rfl) (by omega : 0 + 1 ≤ _) (by omega) (by omega) (k_A_findSeparator (a := a) (cc := cc) (by omega) (by rw [mu_row (by decide)]; exact h52) h4 hcc (by rw [mu_row (by decide)]; exact h53)) hc hf (fun X L' sz' C' q => by cases q.1) (fun v L' ρ' sz' C' h' hq hc2 hf2 _ => ?_)
    obtain ⟨e0, rfl, rfl, eC⟩ := hq
    cases e0
    have hc := hc2
    have hf := hf2
    rw [mu_row (by decide), mu_row (by decide), mu_row (by decide)] at eC
    refine jm_aload_n d_B_hold_61 rfl ?_
    refine jm_aload_n d_B_hold_62 rfl ?_
    refine cr_call (r := ("BargainTree", jm_F0, 9)) (As := [_]) d_B_hold_63 l_B_192 iw_B_sendBack ew_B_sendBack rfl nv_B_sendBack rfl (hc.1 1 0 rfl).1 (Nat.le_of_ble_eq_true rfl) (by omega : 2 + 1 ≤ _) (by omega) (by omega) (k_B_sendBack (a := a) (nl := nl) (by omega) (by omega) (by rw [eC, mu_row (by decide), mu_row (by decide)]; exact hn20) hs20 h20) hc hf (fun X L' sz' C' q => by cases q.1) (fun v L3 ρ' sz3 C3 h' hq hc hf _ => ?_)
    obtain ⟨e0, hq⟩ := hq
    cases e0
    have e16 : C' 16 a = C 16 a := by rw [eC, mu_row (by decide), mu_row (by decide)]
    have e18 : C' 18 a = C 18 a := by rw [eC, mu_row (by decide), mu_row (by decide)]
    rw [e16, e18] at hq
    have hk8 : kL8 L' L3 ∧ sz3 = (if C 16 a = -1 then sz' else lu sz' 8 0 (nlS nl)) ∧ C3 = htC C a cc nl := by
      rcases hq with ⟨q, rfl, rfl, rfl⟩ | ⟨q, q1, rfl, rfl⟩
      · exact ⟨fun _ _ _ => rfl, (if_pos q).symm, by rw [htC, if_pos q, eC]⟩
      · exact ⟨q1, (if_neg q).symm, by rw [htC, if_neg q, eC]⟩
    obtain ⟨hk8, eS3, eC3⟩ := hk8
    have e52 : C3 52 a = nI cc := by
      rw [eC3, htC]
      split
      · rw [thC, mu_row (by decide), mu_row (by decide), h52]
      · rw [sndC_row (by decide) (by decide) (by decide) (by decide) (by decide) (by decide) (by decide), thC, mu_row (by decide), mu_row (by decide), h52]
    have e55 : C3 55 = C 55 := by
      rw [eC3, htC]
      split
      · rw [thC, mu_row (by decide), mu_row (by decide)]
      · rw [sndC_row (by decide) (by decide) (by decide) (by decide) (by decide) (by decide) (by decide), thC, mu_row (by decide), mu_row (by decide)]
    have e4 : sz3 4 a = cc := by rw [eS3]; split <;> exact h4
    have e1 : sz3 1 0 = sz' 1 0 := by rw [eS3]; split <;> rfl
    refine jm_aload_n d_B_hold_66 rfl ?_
    rw [← hk8 1 a (by decide)]
    refine cr_callp (r := ("BargainTree$Agent", jm_F1, 18)) (As := []) d_B_hold_67 l_B_308 iw_A_hasAllTables ew_A_hasAllTables rfl nv_A_hasAllTables rfl (hc.1 3 a (by show a < sz3 1 0; omega)).1 (Nat.le_of_ble_eq_true rfl) (by omega : 0 + 1 ≤ _) (k_A_hasAllTables (a := a) (by omega) e52 e4) hc ?_
    rw [e55]
    exact jm_zret d_B_hold_70 rfl (by show _ = _; cases haCR (C 55) a cc <;> rfl) ⟨_, _, _, _, Or.inr ⟨hb18, rfl, fun g i h8 _ => hk8 g i h8, eS3, eC3⟩, hc, hf⟩
  · obtain ⟨b, hb, eb⟩ := (mjR_ix (nb := C 9) (y := C 9 a &&& (C 18 a ^^^ -1)) n).resolve_left hb18
    rw [eb]
    refine jm_aload_n d_B_hold_21 rfl ?_
    refine jm_aload_n d_B_hold_22 rfl ?_
    refine cr_get 78 0 d_B_hold_23 f_B_11 hc rfl rfl rfl rfl (v := .ref (L 0 0)) rfl ?_
    refine jm_iload_n d_B_hold_26 rfl ?_
    refine cr_ald 3 70 b (e := b) d_B_hold_27 (by decide) rfl hc (show b < sz 1 0 by omega) rfl rfl rfl rfl (by have := hc.B.1; omega) (by decide) (v := .ref (L 1 b)) rfl ?_
    refine cr_call (r := ("BargainTree$Agent", jm_F1, 18)) (As := [_]) d_B_hold_28 l_B_311 iw_A_addChild ew_A_addChild rfl nv_A_addChild rfl (hc.1 3 a (show a < sz 1 0 by omega)).1 (Nat.le_of_ble_eq_true rfl) (by omega : 2 + 1 ≤ _) (by omega) (by omega) (k_A_addChild (a := a) (b := b) (by omega) (by omega) (by omega) h52 h4 (hc7 hb18)) hc hf (fun X L' sz' C' q => by cases q.1) (fun v L' ρ' sz' C' h' hq hc hf _ => ?_)
    obtain ⟨e0, hk4, eS, eC⟩ := hq
    cases e0
    have eA := hk4 1 a (by decide)
    rw [← eA]
    generalize L' = L2 at *
    have ha2 : a < sz' 1 0 := by rw [eS]; exact ha
    refine jm_aload_n d_B_hold_31 rfl ?_
    refine jm_iload_n d_B_hold_32 rfl ?_
    refine cr_put 51 a _ d_B_hold_33 f_B_297 hc hf (show a < sz' 1 0 by omega) rfl rfl rfl (by decide) (by decide) rfl rfl rfl (fun h hc hf => ?_)
    refine jm_aload_n d_B_hold_36 rfl ?_
    refine jm_getE d_B_hold_37 (by decide) f_B_180 ?_
    refine cr_put 50 a 1 d_B_hold_40 f_B_176 hc hf (show a < sz' 1 0 by omega) rfl rfl rfl (by decide) (by decide) rfl rfl rfl (fun h hc hf => ?_)
    refine jm_aload_n d_B_hold_43 rfl ?_
    refine jm_aload_n d_B_hold_44 rfl ?_
    refine cr_call (r := ("BargainTree", jm_F0, 9)) (As := [_]) d_B_hold_45 l_B_185 iw_B_sendToken ew_B_sendToken rfl nv_B_sendToken rfl (hc.1 1 0 rfl).1 (Nat.le_of_ble_eq_true rfl) (by omega : 2 + 1 ≤ _) (by omega) (by omega) (k_B_sendToken (a := a) (nl := nl) (by omega) ha2 (by rw [eC]; show adC C a cc b 34 0 = _; rw [show adC C a cc b 34 = C 34 from by rw [adC, mu_row (by decide), mu_row (by decide), mu_row (by decide), mu_row (by decide)], hn20]) (by rw [eS]; exact hs20) h20) hc hf (fun X L' sz' C' q => by cases q.1) (fun v L3 ρ' sz3 C3 h' hq hc hf _ => ?_)
    obtain ⟨e0, hk8, eS3, eC3⟩ := hq
    cases e0
    refine jm_iconstL (v := 0) d_B_hold_48 (by decide) ?_
    exact jm_zret d_B_hold_49 rfl rfl ⟨_, _, _, _, Or.inl ⟨hb18, rfl, fun g i h8 h4 => (hk8 g i h8).trans (hk4 g i h4), b, hb, eb, by rw [eS3, eS], by rw [eC3, eC, hwC]; congr 1 <;> simp [mu]⟩, hc, hf⟩
end
