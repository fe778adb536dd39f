/-! THE CLASS: leastCost, children, contents, mostJoined, partOf. Written by wip/whole/gen/p57.py -/
section
variable {Γ : jm_G} {d x : Nat} {L sz : Nat → Nat → Nat} {C : mS} {h : jm_H} {ρ : Nat → Nat}
def lcR (f : Nat → Int32) : Nat → Int32
  | 0 => -2
  | v + 1 => lesI (lcR f v) (f v)
theorem co_V8 (hc : co Γ h x L ρ sz C) : V8 h (L 0 3) (C 32) := ⟨(hc.1 32 0 (show 0 < 8 by decide)).1, fun i hi => (hc.1 32 i hi).2.2⟩
/-- the cost at value v, all others as tried -/
abbrev lcF (C : mS) (nv : Nat → Nat) (a n np cc : Nat) : Nat → Int32 := fun v => costC C (upn nv a v) (mu C 32 a (nI v) 32) a n np cc
theorem lp_B_least {rc rs n a np cc z : Nat} {nv : Nat → Nat} {h0 : jm_H} {ρ0 : Nat → Nat} {Q : jm_O → jm_H → Prop} (hd : 3 ≤ d) (hw : cwC sz C n a np cc) (hz : C 3 a = nI z) (hz1 : 1 ≤ z) (hz4 : z ≤ 4) (hv : ∀ v, v < z → vwC C (upn nv a v) (mu C 32 a (nI v) 32) a np)
    (hQ : ∀ h, co Γ h x L ρ sz (mu C 32 a (nI (z - 1))) → xt ρ0 h0 ρ h → Q (.inl (some (.int (lcR (lcF C nv a n np cc) z)))) h) :
    ∀ j k, k + j = z → ∀ y, (0 < k → y = nI (k - 1)) → ∀ h, co Γ h x L ρ sz (mu C 32 a y) → xt ρ0 h0 ρ h → jm_W Γ m_B_leastCost d rc rs Q 5 [some (.ref x), some (.ref (L 1 a)), some (.int (lcR (lcF C nv a n np cc) k)), some (.int (nI k))] [] h := by
  have hs := hw.2.1
  have ha := hw.2.2.2.1
  have h8 := hw.2.2.1
  intro j
  induction j with
  | zero =>
    intro k hk y hy h hc hf
    have hk' : k = z := by omega
    subst hk'
    refine jm_iload_n d_B_leastCost_5 rfl ?_
    refine jm_aload_n d_B_leastCost_6 rfl ?_
    refine cr_getG 3 a d_B_leastCost_7 f_B_245 hc (show a < sz 1 0 by omega) rfl rfl rfl (v := .int (C 3 a)) rfl ?_
    rw [hz]
    refine jm_icmp_ge 43 d_B_leastCost_10 (by decide) (fun hb10 => ?_) (fun hb10 => ?_)
    · refine jm_iload_n d_B_leastCost_43 rfl ?_
      exact jm_iret d_B_leastCost_44 rfl (hQ h (by rw [hy (by omega)] at hc; exact hc) hf)
    · exact absurd (nI_le (by omega) (by omega)) hb10
  | succ j ih =>
    intro k hk y hy h hc hf
    have hkz : k < z := by omega
    refine jm_iload_n d_B_leastCost_5 rfl ?_
    refine jm_aload_n d_B_leastCost_6 rfl ?_
    refine cr_getG 3 a d_B_leastCost_7 f_B_245 hc (show a < sz 1 0 by omega) rfl rfl rfl (v := .int (C 3 a)) rfl ?_
    rw [hz]
    refine jm_icmp_ge 43 d_B_leastCost_10 (by decide) (fun hb10 => ?_) (fun hb10 => ?_)
    · exact absurd hb10 (nI_ge (by omega) (by omega))
    · refine jm_aload_n d_B_leastCost_13 rfl ?_
      refine cr_get 81 0 d_B_leastCost_14 f_B_27 hc rfl rfl rfl rfl (v := .ref (L 0 3)) rfl ?_
      refine jm_aload_n d_B_leastCost_17 rfl ?_
      refine cr_getG 71 a d_B_leastCost_18 f_B_294 hc (show a < sz 1 0 by omega) rfl rfl rfl (v := .int (nI a)) rfl ?_
      refine jm_iload_n d_B_leastCost_21 rfl ?_
      refine cr_ist 32 a (e := a) d_B_leastCost_22 hc hf (show a < 8 by omega) rfl rfl rfl (by decide) (by decide) rfl (by omega) (by decide) rfl (fun h hc hf => ?_)
      rw [mu_mu] at hc
      refine jm_iload_n d_B_leastCost_23 rfl ?_
      refine jm_aload_n d_B_leastCost_24 rfl ?_
      refine jm_aload_n d_B_leastCost_25 rfl ?_
      refine jm_aload_n d_B_leastCost_26 rfl ?_
      refine cr_get 81 0 d_B_leastCost_27 f_B_27 hc rfl rfl rfl rfl (v := .ref (L 0 3)) rfl ?_
      refine jm_callVp (r := ("BargainTree", jm_F0, 9)) (As := [_, _]) d_B_leastCost_30 l_B_334 iw_B_costWith ew_B_costWith rfl nv_B_costWith rfl (hc.1 1 0 rfl).1 (Nat.le_of_ble_eq_true rfl) (by omega : 2 + 1 ≤ _) (k_B_costWith (C := mu C 32 a (nI k)) (nv := upn nv a k) (n := n) (a := a) (np := np) (cc := cc) (by omega) hc hw (hv k hkz) (co_V8 hc)) ?_
      refine jm_callSp (As := [_, _]) d_B_leastCost_33 l_B_338 sw_B_lesser nv_B_lesser rfl (Nat.le_of_ble_eq_true rfl) (by omega : 1 + 1 ≤ _) (k_B_lesser (by omega) _ _) ?_
      refine jm_istore_n d_B_leastCost_36 (Nat.le_of_ble_eq_true rfl) ?_
      refine jm_iincL (v := nI (k + 1)) d_B_leastCost_37 rfl (by rw [nI_succ]; rfl) ?_
      refine jm_goto 5 d_B_leastCost_40 (by decide) ?_
      exact ih (k + 1) (by omega) (nI k) (fun _ => rfl) h hc hf
theorem k_B_leastCost {n a np cc z : Nat} {nv : Nat → Nat} (hd : 3 ≤ d) (hw : cwC sz C n a np cc) (hz : C 3 a = nI z) (hz1 : 1 ≤ z) (hz4 : z ≤ 4) (hv : ∀ v, v < z → vwC C (upn nv a v) (mu C 32 a (nI v) 32) a np) : cM Γ m_B_leastCost d x [.ref x, .ref (L 1 a)] L sz C 0 0 (fun oc L' sz' C' => oc = .inl (some (.int (lcR (lcF C nv a n np cc) z))) ∧ L' = L ∧ sz' = sz ∧ C' = mu C 32 a (nI (z - 1))) := by
  intro h ρ hc
  have hf : xt ρ h ρ h := xt.rf
  refine jm_entry (by decide +kernel) (List.forall_mem_cons.mpr ⟨rfl, List.forall_mem_cons.mpr ⟨rfl, fun _ h => nomatch h⟩⟩) (Nat.le_of_ble_eq_true rfl) ?_
  show jm_W _ _ _ _ _ _ 0 [some (.ref x), some (.ref (L 1 a)), none, none] [] _
  refine jm_bipushL (v := (-2)) d_B_leastCost_0 (by decide) ?_
  refine jm_istore_n d_B_leastCost_2 (Nat.le_of_ble_eq_true rfl) ?_
  refine jm_iconstL (v := nI 0) d_B_leastCost_3 (by decide) ?_
  refine jm_istore_n d_B_leastCost_4 (Nat.le_of_ble_eq_true rfl) ?_
  refine lp_B_least hd hw hz hz1 hz4 hv (fun h hc hf => ⟨L, ρ, sz, _, ⟨rfl, rfl, rfl, rfl⟩, hc, hf⟩) z 0 (by omega) (C 32 a) (fun q => absurd q (by omega)) h ?_ hf
  rw [mu_id rfl]
  exact hc
def haCR (tw : Nat → Int32) (a : Nat) : Nat → Bool
  | 0 => true
  | k + 1 => haCR tw a k && decide (tw (8 * a + k) ≠ -1)
theorem haCR_no {tw : Nat → Int32} {a k : Nat} (h : tw (8 * a + k) = -1) : ∀ n, k < n → haCR tw a n = false
  | 0, h0 => absurd h0 (by omega)
  | n + 1, h0 => by
    simp only [haCR]
    by_cases e : k = n
    · rw [← e, decide_eq_false (fun q => q h), Bool.and_false]
    · rw [haCR_no h n (by omega), Bool.false_and]
theorem lp_A_hasAll {rc rs a cc : Nat} (hc : co Γ h x L ρ sz C) (ha : a < sz 1 0) (hcc : C 52 a = nI cc) (hs4 : sz 4 a = cc) : ∀ j k, k + j = cc → haCR (C 55) a k = true → jm_W Γ m_A_hasAllTables d rc rs (fun oc h' => h' = h ∧ oc = .inl (some (.int (bz (haCR (C 55) a cc))))) 2 [some (.ref (L 1 a)), some (.int (nI k))] [] h := by
  have hc7 := hc.B.2.2.2 a
  intro j
  induction j with
  | zero =>
    intro k hk he
    have hk' : k = cc := by omega
    subst hk'
    refine jm_iload_n d_A_hasAllTables_2 rfl ?_
    refine jm_aload_n d_A_hasAllTables_3 rfl ?_
    refine cr_get 52 a d_A_hasAllTables_4 f_A_62 hc (show a < sz 1 0 by omega) rfl rfl rfl (v := .int (C 52 a)) rfl ?_
    rw [hcc]
    refine jm_icmp_ge 30 d_A_hasAllTables_7 (by decide) (fun hb7 => ?_) (fun hb7 => ?_)
    · refine jm_iconstL (v := nI 1) d_A_hasAllTables_30 (by decide) ?_
      exact jm_zret d_A_hasAllTables_31 rfl (by first | rfl | (split <;> rfl)) ⟨rfl, by rw [he]; rfl⟩
    · exact absurd (nI_le (by omega) (by omega)) hb7
  | succ j ih =>
    intro k hk he
    have hkc : k < cc := by omega
    refine jm_iload_n d_A_hasAllTables_2 rfl ?_
    refine jm_aload_n d_A_hasAllTables_3 rfl ?_
    refine cr_get 52 a d_A_hasAllTables_4 f_A_62 hc (show a < sz 1 0 by omega) rfl rfl rfl (v := .int (C 52 a)) rfl ?_
    rw [hcc]
    refine jm_icmp_ge 30 d_A_hasAllTables_7 (by decide) (fun hb7 => ?_) (fun hb7 => ?_)
    · exact absurd hb7 (nI_ge (by omega) (by omega))
    · refine jm_aload_n d_A_hasAllTables_10 rfl ?_
      refine cr_get 73 a d_A_hasAllTables_11 f_A_17 hc (show a < sz 1 0 by omega) rfl rfl rfl (v := .ref (L 3 a)) rfl ?_
      refine jm_iload_n d_A_hasAllTables_14 rfl ?_
      refine cr_aldS a k d_A_hasAllTables_15 hc (by omega) (by omega) rfl ?_
      refine cr_t55 (8 * a + k) d_A_hasAllTables_16 f_A_71 hc (cv_ch ha (by omega) hc.B) (fun v9 hT9 => ?_)
      rcases hT9 with ⟨hw, rfl⟩ | ⟨q, w, rfl, hw, hw2, -, -, -⟩
      · refine jm_ifnonnullN d_A_hasAllTables_19 ?_
        refine jm_iconstL (v := 0) d_A_hasAllTables_22 (by decide) ?_
        exact jm_zret d_A_hasAllTables_23 rfl rfl ⟨rfl, by rw [haCR_no hw cc hkc]; rfl⟩
      refine jm_ifnonnull 24 d_A_hasAllTables_19 (by decide) ?_
      refine jm_iincL (v := nI (k + 1)) d_A_hasAllTables_24 rfl (by rw [nI_succ]; rfl) ?_
      refine jm_goto 2 d_A_hasAllTables_27 (by decide) ?_
      refine ih (k + 1) (by omega) ?_
      show (haCR (C 55) a k && decide (C 55 (8 * a + k) ≠ -1)) = true
      rw [he, decide_eq_true (show C 55 (8 * a + k) ≠ -1 by rw [hw]; exact nI_m1 (by omega))]
      rfl
theorem k_A_hasAllTables {a cc : Nat} (ha : a < sz 1 0) (hcc : C 52 a = nI cc) (hs4 : sz 4 a = cc) : cA0 Γ m_A_hasAllTables d x [.ref (L 1 a)] L sz C (some (.int (bz (haCR (C 55) a cc)))) := by
  intro h ρ hc
  refine jm_entry (by decide +kernel) (List.forall_mem_cons.mpr ⟨rfl, fun _ h => nomatch h⟩) (Nat.le_of_ble_eq_true rfl) ?_
  show jm_W _ _ _ _ _ _ 0 [some (.ref (L 1 a)), none] [] _
  refine jm_iconstL (v := nI 0) d_A_hasAllTables_0 (by decide) ?_
  refine jm_istore_n d_A_hasAllTables_1 (Nat.le_of_ble_eq_true rfl) ?_
  exact lp_A_hasAll hc ha hcc hs4 cc 0 (by omega) rfl
/-- the first child from k on that is b -/
def cfR (ca : Nat → Int32) (a : Nat) (b : Int32) : Nat → Nat → Int32
  | 0, _ => -1
  | j + 1, k => if ca (8 * a + k) = b then nI k else cfR ca a b j (k + 1)
abbrev cvV (L : Nat → Nat → Nat) (a : Nat) (r : Int32) : Value := if r = -1 then .null else .ref (L 4 (8 * a + r.toNatClampNeg))
theorem cfR_ix {ca : Nat → Int32} {a : Nat} {b : Int32} : ∀ j k, (cfR ca a b j k = -1 ∧ ∀ q, k ≤ q → q < k + j → ca (8 * a + q) ≠ b) ∨ ∃ q, k ≤ q ∧ q < k + j ∧ cfR ca a b j k = nI q ∧ ca (8 * a + q) = b
  | 0, _ => Or.inl ⟨rfl, fun q h1 h2 => absurd h2 (by omega)⟩
  | j + 1, k => by
    by_cases hq : ca (8 * a + k) = b
    · exact Or.inr ⟨k, by omega, by omega, if_pos hq, hq⟩
    · rw [show cfR ca a b (j + 1) k = cfR ca a b j (k + 1) from if_neg hq]
      rcases cfR_ix j (k + 1) with ⟨h, h'⟩ | ⟨q, h1, h2, h3⟩
      · refine Or.inl ⟨h, fun q q1 q2 => ?_⟩
        by_cases e : q = k
        · rw [e]; exact hq
        · exact h' q (by omega) (by omega)
      · exact Or.inr ⟨q, by omega, by omega, h3⟩
theorem lp_A_childWith {rc rs a cc : Nat} {b : Int32} (hc : co Γ h x L ρ sz C) (ha : a < sz 1 0) (hcc : C 52 a = nI cc) (hs4 : sz 4 a = cc) (hch : ∀ k, k < cc → ∃ b, b < sz 1 0 ∧ C 53 (8 * a + k) = nI b) : ∀ j k, k + j = cc → cfR (C 53) a b cc 0 = cfR (C 53) a b j k → jm_W Γ m_A_childWith d rc rs (fun oc h' => h' = h ∧ oc = .inl (some (cvV L a (cfR (C 53) a b cc 0)))) 2 [some (.ref (L 1 a)), some (.int b), some (.int (nI k))] [] h := by
  have hc7 := hc.B.2.2.2 a
  have h8 := hc.B.1
  intro j
  induction j with
  | zero =>
    intro k hk he
    have hk' : k = cc := by omega
    subst hk'
    refine jm_iload_n d_A_childWith_2 rfl ?_
    refine jm_aload_n d_A_childWith_3 rfl ?_
    refine cr_get 52 a d_A_childWith_4 f_A_62 hc (show a < sz 1 0 by omega) rfl rfl rfl (v := .int (C 52 a)) rfl ?_
    rw [hcc]
    refine jm_icmp_ge 39 d_A_childWith_7 (by decide) (fun hb7 => ?_) (fun hb7 => ?_)
    · refine jm_null d_A_childWith_39 ?_
      exact jm_aret d_A_childWith_40 rfl (by first | exact Or.inl ⟨_, rfl⟩ | exact Or.inr ⟨_, rfl⟩) (Or.inl rfl) ⟨rfl, by rw [he]; rfl⟩
    · exact absurd (nI_le (by omega) (by omega)) hb7
  | succ j ih =>
    intro k hk he
    have hkc : k < cc := by omega
    obtain ⟨e, he1, he2⟩ := hch k hkc
    have en : cfR (C 53) a b (j + 1) k = if C 53 (8 * a + k) = b then nI k else cfR (C 53) a b j (k + 1) := rfl
    refine jm_iload_n d_A_childWith_2 rfl ?_
    refine jm_aload_n d_A_childWith_3 rfl ?_
    refine cr_get 52 a d_A_childWith_4 f_A_62 hc (show a < sz 1 0 by omega) rfl rfl rfl (v := .int (C 52 a)) rfl ?_
    rw [hcc]
    refine jm_icmp_ge 39 d_A_childWith_7 (by decide) (fun hb7 => ?_) (fun hb7 => ?_)
    · exact absurd hb7 (nI_ge (by omega) (by omega))
    · refine jm_aload_n d_A_childWith_10 rfl ?_
      refine cr_get 73 a d_A_childWith_11 f_A_17 hc (show a < sz 1 0 by omega) rfl rfl rfl (v := .ref (L 3 a)) rfl ?_
      refine jm_iload_n d_A_childWith_14 rfl ?_
      refine cr_aldS a k d_A_childWith_15 hc (by omega) (by omega) rfl ?_
      refine cr_getG 53 (8 * a + k) d_A_childWith_16 f_A_68 hc (cv_ch (show a < sz 1 0 by omega) (show k < sz 4 a by omega) hc.B) rfl rfl rfl (v := .ref (L 1 e)) (cE_53 he2 (by omega)) ?_
      refine cr_get 71 e d_A_childWith_19 f_A_37 hc (show e < sz 1 0 by omega) rfl rfl rfl (v := .int (nI e)) rfl ?_
      refine jm_iload_n d_A_childWith_22 rfl ?_
      refine jm_icmp_ne 33 d_A_childWith_23 (by decide) (fun hb23 => ?_) (fun hb23 => ?_)
      · refine jm_iincL (v := nI (k + 1)) d_A_childWith_33 rfl (by rw [nI_succ]; rfl) ?_
        refine jm_goto 2 d_A_childWith_36 (by decide) ?_
        exact ih (k + 1) (by omega) (by rw [he, en, if_neg (fun q => hb23 (he2.symm.trans q))])
      · refine jm_aload_n d_A_childWith_26 rfl ?_
        refine cr_get 73 a d_A_childWith_27 f_A_17 hc (show a < sz 1 0 by omega) rfl rfl rfl (v := .ref (L 3 a)) rfl ?_
        refine jm_iload_n d_A_childWith_30 rfl ?_
        refine cr_aldS a k d_A_childWith_31 hc (by omega) (by omega) rfl ?_
        exact jm_aret d_A_childWith_32 rfl (by first | exact Or.inl ⟨_, rfl⟩ | exact Or.inr ⟨_, rfl⟩) (Or.inr ⟨_, rfl⟩) ⟨rfl, by rw [he, en, if_pos (he2.trans (Decidable.not_not.mp hb23)), cvV, if_neg (nI_m1 (by omega)), nI_clamp (by omega)]⟩
theorem k_A_childWith {a cc : Nat} (ha : a < sz 1 0) (hcc : C 52 a = nI cc) (hs4 : sz 4 a = cc) (hch : ∀ k, k < cc → ∃ b, b < sz 1 0 ∧ C 53 (8 * a + k) = nI b) (b : Int32) : cA0 Γ m_A_childWith d x [.ref (L 1 a), .int b] L sz C (some (cvV L a (cfR (C 53) a b cc 0))) := by
  intro h ρ hc
  refine jm_entry (by decide +kernel) (List.forall_mem_cons.mpr ⟨rfl, List.forall_mem_cons.mpr ⟨rfl, fun _ h => nomatch h⟩⟩) (Nat.le_of_ble_eq_true rfl) ?_
  show jm_W _ _ _ _ _ _ 0 [some (.ref (L 1 a)), some (.int b), none] [] _
  refine jm_iconstL (v := nI 0) d_A_childWith_0 (by decide) ?_
  refine jm_istore_n d_A_childWith_1 (Nat.le_of_ble_eq_true rfl) ?_
  exact lp_A_childWith hc ha hcc hs4 hch cc 0 (by omega) rfl
end
section
variable {Γ : jm_G} {d q : Nat} {h : jm_H} {ρ : Nat → Nat} {a b c e w : Int32} {f : Nat → Int32}
def ccR (f : Nat → Int32) : Nat → Nat
  | 0 => 0
  | k + 1 => if f k = -1 then ccR f k else ccR f k + 1
theorem lp_L_cc {rc rs m r : Nat} (hL : LET h ρ q a b c e w f) (hw : w = nI m) (hm : m ≤ 256) (hv : h.2 5 4 q = .ref r) (hR : RW h ρ r m f) : ∀ j k, k + j = m → jm_W Γ m_L_contentCount d rc rs (fun oc h' => h' = h ∧ oc = .inl (some (.int (nI (ccR f m))))) 13 [some (.ref q), some (.int (nI (ccR f k))), some (.int (nI k))] [] h := by
  intro j
  induction j with
  | zero =>
    intro k hk
    have hk' : k = m := by omega
    subst hk'
    refine jm_iload_n d_L_contentCount_13 rfl ?_
    refine jm_aload_n d_L_contentCount_14 rfl ?_
    refine cr_l4 d_L_contentCount_15 f_L_24 hL (fun v9 hT9 => ?_)
    obtain ⟨r9, rfl, hR9⟩ := hT9.is hw hm
    refine cr_rlen d_L_contentCount_18 hR9 ?_
    refine jm_icmp_ge 41 d_L_contentCount_19 (by decide) (fun hb19 => ?_) (fun hb19 => ?_)
    · refine jm_iload_n d_L_contentCount_41 rfl ?_
      exact jm_iret d_L_contentCount_42 rfl ⟨rfl, rfl⟩
    · exact absurd (nI_le (by omega) (by omega)) hb19
  | succ j ih =>
    intro k hk
    have e9 := ih (k + 1) (by omega)
    have ec : ccR f (k + 1) = if f k = -1 then ccR f k else ccR f k + 1 := rfl
    refine jm_iload_n d_L_contentCount_13 rfl ?_
    refine jm_aload_n d_L_contentCount_14 rfl ?_
    refine cr_l4 d_L_contentCount_15 f_L_24 hL (fun v9 hT9 => ?_)
    obtain ⟨r9, rfl, hR9⟩ := hT9.is hw hm
    refine cr_rlen d_L_contentCount_18 hR9 ?_
    refine jm_icmp_ge 41 d_L_contentCount_19 (by decide) (fun hb19 => ?_) (fun hb19 => ?_)
    · exact absurd hb19 (nI_ge (by omega) (by omega))
    · refine jm_aload_n d_L_contentCount_22 rfl ?_
      refine cr_l4 d_L_contentCount_23 f_L_24 hL (fun v9 hT9 => ?_)
      obtain ⟨r9, rfl, hR9⟩ := hT9.is hw hm
      refine jm_iload_n d_L_contentCount_26 rfl ?_
      refine cr_rld d_L_contentCount_27 hR9 rfl (by omega) ?_
      refine jm_iconstL (v := (-1)) d_L_contentCount_28 (by decide) ?_
      refine jm_icmp_eq 35 d_L_contentCount_29 (by decide) (fun hb29 => ?_) (fun hb29 => ?_)
      · refine jm_iincL (v := nI (k + 1)) d_L_contentCount_35 rfl (by rw [nI_succ]; rfl) ?_
        refine jm_goto 13 d_L_contentCount_38 (by decide) ?_
        first | rw [ec, if_pos hb29] at e9 | rw [ec, if_neg hb29] at e9
        exact e9
      · refine jm_iincL (v := nI (ccR f k + 1)) d_L_contentCount_32 rfl (by rw [nI_succ]; rfl) ?_
        refine jm_iincL (v := nI (k + 1)) d_L_contentCount_35 rfl (by rw [nI_succ]; rfl) ?_
        refine jm_goto 13 d_L_contentCount_38 (by decide) ?_
        first | rw [ec, if_pos hb29] at e9 | rw [ec, if_neg hb29] at e9
        exact e9
theorem k_L_contentCount (hL : LET h ρ q a b c e w f) : jm_A Γ m_L_contentCount d [.ref q] h (some (.int (if w = -1 then 0 else nI (ccR f w.toNatClampNeg)))) := by
  have hT := hL.2.2.2.2.2.2
  refine jm_entry (by decide +kernel) (List.forall_mem_cons.mpr ⟨rfl, fun _ h => nomatch h⟩) (Nat.le_of_ble_eq_true rfl) ?_
  show jm_W _ _ _ _ _ _ 0 [some (.ref q), none, none] [] _
  refine jm_aload_n d_L_contentCount_0 rfl ?_
  refine jm_getf d_L_contentCount_1 f_L_24 (n := 0) hL.1 ?_
  rcases hT with ⟨hw, hv⟩ | ⟨r, m, hv, hw, hm, r1, r2, r3⟩
  · rw [hv]
    refine jm_ifnonnullN d_L_contentCount_4 ?_
    refine jm_iconstL (v := 0) d_L_contentCount_7 (by decide) ?_
    exact jm_iret d_L_contentCount_8 rfl ⟨rfl, by rw [if_pos hw]⟩
  rw [hv]
  refine jm_ifnonnull 9 d_L_contentCount_4 (by decide) ?_
  refine jm_iconstL (v := nI 0) d_L_contentCount_9 (by decide) ?_
  refine jm_istore_n d_L_contentCount_10 (Nat.le_of_ble_eq_true rfl) ?_
  refine jm_iconstL (v := nI 0) d_L_contentCount_11 (by decide) ?_
  refine jm_istore_n d_L_contentCount_12 (Nat.le_of_ble_eq_true rfl) ?_
  rw [if_neg (by rw [hw]; exact nI_m1 (by omega)), hw, nI_clamp (by omega)]
  exact lp_L_cc hL hw hm hv ⟨r1, r2, hm, r3⟩ m 0 (by omega)
theorem k_L_contentAt (hL : LET h ρ q a b c e w f) {i : Int32} (hi : 0 ≤ i) : jm_A Γ m_L_contentAt d [.ref q, .int i] h (some (.int (if w ≠ -1 ∧ i < w then f i.toNatClampNeg else -1))) := by
  have hT := hL.2.2.2.2.2.2
  refine jm_entry (by decide +kernel) (List.forall_mem_cons.mpr ⟨rfl, List.forall_mem_cons.mpr ⟨rfl, fun _ h => nomatch h⟩⟩) (Nat.le_of_ble_eq_true rfl) ?_
  show jm_W _ _ _ _ _ _ 0 [some (.ref q), some (.int i)] [] _
  refine jm_aload_n d_L_contentAt_0 rfl ?_
  refine jm_getf d_L_contentAt_1 f_L_24 (n := 0) hL.1 ?_
  rcases hT with ⟨hw, hv⟩ | ⟨r, m, hv, hw, hm, r1, r2, r3⟩
  · rw [hv]
    refine jm_ifnullN 25 d_L_contentAt_4 (by decide) ?_
    refine jm_iconstL (v := -1) d_L_contentAt_25 (by decide) ?_
    exact jm_iret d_L_contentAt_26 rfl ⟨rfl, by rw [if_neg (fun q => q.1 hw)]⟩
  rw [hv]
  refine jm_ifnull d_L_contentAt_4 ?_
  have hw1 : w ≠ -1 := by rw [hw]; exact nI_m1 (by omega)
  refine jm_iload_n d_L_contentAt_7 rfl ?_
  refine jm_aload_n d_L_contentAt_8 rfl ?_
  refine cr_l4 d_L_contentAt_9 f_L_24 hL (fun v9 hT9 => ?_)
  obtain ⟨r9, rfl, hR9⟩ := hT9.is hw hm
  refine cr_rlen d_L_contentAt_12 hR9 ?_
  refine jm_icmp_ge 25 d_L_contentAt_13 (by decide) (fun hb13 => ?_) (fun hb13 => ?_)
  · refine jm_iconstL (v := -1) d_L_contentAt_25 (by decide) ?_
    exact jm_iret d_L_contentAt_26 rfl ⟨rfl, by rw [if_neg (fun q => absurd q.2 (Int32.not_lt.mpr (by rw [hw]; exact hb13)))]⟩
  · obtain ⟨u, hu0, rfl⟩ := nI_of (x := i) (Int32.not_lt.mpr hi)
    have hu : u < m := (nI_ltI hu0 (by omega)).mp (Int32.not_le.mp hb13)
    refine jm_aload_n d_L_contentAt_16 rfl ?_
    refine cr_l4 d_L_contentAt_17 f_L_24 hL (fun v9 hT9 => ?_)
    obtain ⟨r9, rfl, hR9⟩ := hT9.is hw hm
    refine jm_iload_n d_L_contentAt_20 rfl ?_
    refine cr_rld d_L_contentAt_21 hR9 rfl hu ?_
    refine jm_goto 26 d_L_contentAt_22 (by decide) ?_
    exact jm_iret d_L_contentAt_26 rfl ⟨rfl, by rw [if_pos ⟨hw1, by rw [hw]; exact Int32.not_le.mp hb13⟩, nI_clamp hu0]⟩
def bcI (x : Int32) : Int32 :=
  let a := x - ((x.toUInt32 >>> ((1 : Int32).toUInt32 &&& Int32.toUInt32 31)).toInt32 &&& 1431655765)
  let b := (a &&& 858993459) + ((a.toUInt32 >>> ((2 : Int32).toUInt32 &&& Int32.toUInt32 31)).toInt32 &&& 858993459)
  let c := (b + (b.toUInt32 >>> ((4 : Int32).toUInt32 &&& Int32.toUInt32 31)).toInt32) &&& 252645135
  let e := c + (c.toUInt32 >>> ((8 : Int32).toUInt32 &&& Int32.toUInt32 31)).toInt32
  let g := e + (e.toUInt32 >>> ((16 : Int32).toUInt32 &&& Int32.toUInt32 31)).toInt32
  g &&& 63
theorem k_J_bitCount (x : Int32) : jm_A Γ m_J_bitCount d [.int x] h (some (.int (bcI x))) := by
  refine jm_entryF (by decide +kernel) (List.forall_mem_cons.mpr ⟨rfl, fun _ h => nomatch h⟩) (Nat.le_of_ble_eq_true rfl) ?_
  show jm_W _ _ _ _ _ _ 0 [some (.int x)] [] _
  refine jm_iload_n d_J_bitCount_0 rfl ?_
  refine jm_iload_n d_J_bitCount_1 rfl ?_
  refine jm_iconstL (v := 1) d_J_bitCount_2 (by decide) ?_
  refine jm_iushr d_J_bitCount_3 ?_
  refine jm_ldcw d_J_bitCount_4 k_J_265 ?_
  refine jm_iand d_J_bitCount_7 ?_
  refine jm_isub d_J_bitCount_8 ?_
  refine jm_istore_n d_J_bitCount_9 (Nat.le_of_ble_eq_true rfl) ?_
  refine jm_iload_n d_J_bitCount_10 rfl ?_
  refine jm_ldcw d_J_bitCount_11 k_J_266 ?_
  refine jm_iand d_J_bitCount_14 ?_
  refine jm_iload_n d_J_bitCount_15 rfl ?_
  refine jm_iconstL (v := 2) d_J_bitCount_16 (by decide) ?_
  refine jm_iushr d_J_bitCount_17 ?_
  refine jm_ldcw d_J_bitCount_18 k_J_266 ?_
  refine jm_iand d_J_bitCount_21 ?_
  refine jm_iadd d_J_bitCount_22 ?_
  refine jm_istore_n d_J_bitCount_23 (Nat.le_of_ble_eq_true rfl) ?_
  refine jm_iload_n d_J_bitCount_24 rfl ?_
  refine jm_iload_n d_J_bitCount_25 rfl ?_
  refine jm_iconstL (v := 4) d_J_bitCount_26 (by decide) ?_
  refine jm_iushr d_J_bitCount_27 ?_
  refine jm_iadd d_J_bitCount_28 ?_
  refine jm_ldcw d_J_bitCount_29 k_J_267 ?_
  refine jm_iand d_J_bitCount_32 ?_
  refine jm_istore_n d_J_bitCount_33 (Nat.le_of_ble_eq_true rfl) ?_
  refine jm_iload_n d_J_bitCount_34 rfl ?_
  refine jm_iload_n d_J_bitCount_35 rfl ?_
  refine jm_bipushL (v := 8) d_J_bitCount_36 (by decide) ?_
  refine jm_iushr d_J_bitCount_38 ?_
  refine jm_iadd d_J_bitCount_39 ?_
  refine jm_istore_n d_J_bitCount_40 (Nat.le_of_ble_eq_true rfl) ?_
  refine jm_iload_n d_J_bitCount_41 rfl ?_
  refine jm_iload_n d_J_bitCount_42 rfl ?_
  refine jm_bipushL (v := 16) d_J_bitCount_43 (by decide) ?_
  refine jm_iushr d_J_bitCount_45 ?_
  refine jm_iadd d_J_bitCount_46 ?_
  refine jm_istore_n d_J_bitCount_47 (Nat.le_of_ble_eq_true rfl) ?_
  refine jm_iload_n d_J_bitCount_48 rfl ?_
  refine jm_bipushL (v := 63) d_J_bitCount_49 (by decide) ?_
  refine jm_iand d_J_bitCount_51 ?_
  exact jm_iret d_J_bitCount_52 rfl ⟨rfl, rfl⟩
theorem bc_bits : ∀ m, m < 256 → bcI (nI m) = bitsF (nI m) 8 := by decide +kernel
end
