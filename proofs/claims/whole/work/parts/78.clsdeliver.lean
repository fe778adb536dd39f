/-! CLASS AND REFERENCE: a letter delivered. Written by wip/whole/gen/p78.py -/
section
variable {Γ : jm_G} {d x : Nat} {L sz : Nat → Nat → Nat} {S C : mS} {h : jm_H} {ρ : Nat → Nat} {n np nl T : Nat} {A : Rl} {dd : Nat → Nat} {hh : Nat → Prop}
theorem LV_k {a b : Nat} {w m my mk : Int32} {e : Nat → Int32} (h8 : n ≤ 8) (ha : a < n) (hb : b < n) (h : LV S n w (nI b) (nI a) m my mk e) :
    (w = 0 ∧ (¬ vhd S n a → vwt S n b a ∧ m = S 18 b)) ∨ (w = 1 ∧ vth S n b ∧ vpa S n b a ∧ m = S 18 b) ∨
    (w = 2 ∧ vth S n b ∧ vpa S n b a ∧ mk = S 22 b ∧ my = nI (wd S b) ∧ wd S b ≤ 256 ∧ ∃ r, 1 ≤ r ∧ r < 2 ^ 31 ∧ m = nI r ∧ (r ≤ vtq S n b ∨ (r = vtr S n b ∧ vtr S n b = vR S b ∧ ∀ i, i < wd S b → e i = S 26 (256 * b + i)))) ∨
    (w = 3 ∧ vpa S n a b ∧ rowK S n e ∧ ∃ r, 1 ≤ r ∧ r < 2 ^ 31 ∧ m = nI r ∧ (r ≤ vst S n a ∨ (r = vR S a ∧ vst S n b = vR S a ∧ ∀ x, x < 8 → e x = S 31 (8 * b + x)))) := by
  obtain ⟨f, t, h1, h2, h3, h4, h⟩ := h
  have e1 : f = b := nI_inj (by omega) (by omega) h3.symm
  have e2 : t = a := nI_inj (by omega) (by omega) h4.symm
  subst e1; subst e2
  rcases h with ⟨k1, -, k3⟩ | ⟨k1, -, k3, k4, k5⟩ | ⟨k1, k2, k3, k4, k5, k6, -, k8⟩ | ⟨k1, k2, k3, -, k5⟩
  · exact Or.inl ⟨k1, k3⟩
  · exact Or.inr (Or.inl ⟨k1, k3, k4, k5⟩)
  · exact Or.inr (Or.inr (Or.inl ⟨k1, k2, k3, k4, k5, k6, k8⟩))
  · exact Or.inr (Or.inr (Or.inr ⟨k1, k2, k3, k5⟩))
theorem hdC_19 {a n np : Nat} {y : Int32} : hdC (mu S 19 a y) a n np = hdC S a n np := by
  have e : ∀ j, j ≠ 19 → (mu S 19 a y) j = S j := fun j q => mu_row q
  have eU : ∀ cc, hdU (mu S 19 a y) a n cc = hdU S a n cc := fun cc => by
    show mu (mu (mu (mu S 19 a y) 19 a (nxR ((mu S 19 a y) 9) ((mu S 19 a y) 9 a) ((mu S 19 a y) 18 a) n)) 14 a 1) 22 a (seR ((mu S 19 a y) 22) ((mu S 19 a y) 20) ((mu S 19 a y) 17 a) a cc &&& _) = _
    rw [mu_mu, e 9 (by decide), e 18 (by decide), e 22 (by decide), e 20 (by decide), e 17 (by decide)]
  show hdS (mu S 19 a y) a n np (N (mu S 19 a y) 21 a) (N (mu S 19 a y) 3 a) (unN (mu S 19 a y) (hdU (mu S 19 a y) a n (N (mu S 19 a y) 21 a) 22 a) 8) = hdS S a n np (N S 21 a) (N S 3 a) (unN S (hdU S a n (N S 21 a) 22 a) 8)
  have e21 : N (mu S 19 a y) 21 a = N S 21 a := by simp only [N, e 21 (by decide)]
  have e3 : N (mu S 19 a y) 3 a = N S 3 a := by simp only [N, e 3 (by decide)]
  rw [e21, e3, eU]
  unfold hdS hdV
  rw [eU, e 9 (by decide), e 18 (by decide), e 16 (by decide), mu_mu]
  show (if _ then wkS _ a 1 np _ _ (unR ((mu S 19 a y) 3) _ 8) else _) = _
  rw [e 3 (by decide)]
theorem stg_ix {a : Nat} (M : SIM S C n np nl sz 8) (h8 : n ≤ 8) (ha : a < n) : (∃ s, s < 3 ∧ C 50 a = nI s) ∧ (C 50 a = 0 ↔ S 13 a = 0) ∧ (C 50 a = 2 ↔ S 13 a ≠ 0 ∧ S 14 a ≠ 0) ∧ (C 50 a = 1 ↔ S 13 a ≠ 0 ∧ S 14 a = 0) := by
  rw [(M.2.2.1 a ha).1 (by omega)]
  unfold stg
  by_cases q : S 13 a = 0
  · rw [if_pos q]; exact ⟨⟨0, by decide, rfl⟩, ⟨fun _ => q, fun _ => rfl⟩, ⟨fun z => absurd z (by decide), fun z => absurd q z.1⟩, ⟨fun z => absurd z (by decide), fun z => absurd q z.1⟩⟩
  · rw [if_neg q]
    by_cases q2 : S 14 a = 0
    · rw [if_pos q2]; exact ⟨⟨1, by decide, rfl⟩, ⟨fun z => absurd z (by decide), fun z => absurd z q⟩, ⟨fun z => absurd z (by decide), fun z => absurd q2 z.2⟩, ⟨fun _ => ⟨q, q2⟩, fun _ => rfl⟩⟩
    · rw [if_neg q2]; exact ⟨⟨2, by decide, rfl⟩, ⟨fun z => absurd z (by decide), fun z => absurd z q⟩, ⟨fun _ => ⟨q, q2⟩, fun _ => rfl⟩, ⟨fun z => absurd z (by decide), fun z => absurd z.2 q2⟩⟩
theorem k_B_deliver {q a b : Nat} {kd m w : Int32} {e : Nat → Int32} (hd : 5 ≤ d) (hE : eInj Γ) (W : WI S C n np nl T sz A dd noH 8 8) (hc : co Γ h x L ρ sz C) (hL : LET h ρ q kd (nI b) (nI a) m w e) (ha : a < n) (hb : b < n) (h35 : S 35 20 = kd) (h36 : S 36 20 = nI b) (h38 : S 38 20 = m) (hLV : LV S n kd (nI b) (nI a) m (S 39 20) (S 40 20) (fun i => S 41 (5120 + i))) (hw : w = (if kd = 2 then S 39 20 else if kd = 3 then 8 else -1)) (he2 : kd = 2 → ∀ i, i < N S 39 20 → e i = un (S 41 (5120 + i))) (he3 : kd = 3 → ∀ i, i < 8 → e i = S 41 (5120 + i)) :
    jm_M Γ m_B_deliver d [.ref x, .ref q] h 13 320 (fun oc h' => ∃ L' ρ' sz' C', (oc = .inl none ∧ kL L L' ∧ ∃ nl' A' dd', WI (dvS S n np a b) C' n np nl' T sz' A' dd' noH 8 8) ∧ co Γ h' x L' ρ' sz' C' ∧ xt ρ h ρ' h') := by
  have hf : xt ρ h ρ h := xt.rf
  obtain ⟨w1, B, M, IXh, LVs, CDh, Z5h⟩ := id W
  have n8 := B.1.2.1
  have hI := (IX8 n8).mp IXh
  have D := hI.1
  have E := hI.2.1
  have hs1 : sz 1 0 = n := M.1.2.2.2.2.2.1
  have ha1 : a < sz 1 0 := by rw [hs1]; exact ha
  have hn34 := M.1.2.2.1
  have hs8 := M.1.2.2.2.2.2.2.2
  have h20 := B.1.2.2.2.2.2.1
  obtain ⟨hst, st0, st2, st1⟩ := stg_ix M n8 ha
  have g := M.2.1 a ha
  have kinds := LV_k n8 ha hb hLV
  refine jm_entry (by decide +kernel) (List.forall_mem_cons.mpr ⟨rfl, List.forall_mem_cons.mpr ⟨rfl, fun _ h => nomatch h⟩⟩) (Nat.le_of_ble_eq_true rfl) ?_
  show jm_W _ _ _ _ _ _ 0 [some (.ref x), some (.ref q), none] [] _
  refine jm_aload_n d_B_deliver_0 rfl ?_
  refine cr_get 78 0 d_B_deliver_1 f_B_11 hc rfl rfl rfl rfl (v := .ref (L 0 0)) rfl ?_
  refine jm_aload_n d_B_deliver_4 rfl ?_
  refine cr_l2G (fin := false) d_B_deliver_5 f_B_158 (LET_xt hL hf) ?_
  refine cr_ald 3 70 a (e := a) d_B_deliver_8 (by decide) rfl hc (show a < sz 1 0 by omega) rfl rfl rfl rfl (by have := hc.B.1; omega) (by decide) (v := .ref (L 1 a)) rfl ?_
  refine jm_astore_n d_B_deliver_9 (Nat.le_of_ble_eq_true rfl) ?_
  refine jm_aload_n d_B_deliver_10 rfl ?_
  refine cr_l0G (fin := false) d_B_deliver_11 f_B_152 (LET_xt hL hf) ?_
  rcases kinds with ⟨rfl, k2⟩ | ⟨rfl, k2, k3, k4⟩ | ⟨rfl, k2, k3, k4, k5, k6, k8⟩ | ⟨rfl, k2, k3, k5⟩
  · refine jm_tableIn 40 d_B_deliver_14 (by decide) (by decide) rfl (by decide) ?_
    refine jm_aload_n d_B_deliver_40 rfl ?_
    refine jm_aload_n d_B_deliver_41 rfl ?_
    refine jm_aload_n d_B_deliver_42 rfl ?_
    refine jm_callV (r := ("BargainTree", jm_F0, 9)) (As := [_, _]) d_B_deliver_43 l_B_271 iw_B_takesToken ew_B_takesToken rfl nv_B_takesToken rfl (hc.1 1 0 rfl).1 (Nat.le_of_ble_eq_true rfl) (by omega : 3 + 1 ≤ _) (by omega) (by omega) (k_B_takesToken (a := a) (nl := nl) (by omega) ha1 hE hst hn34 hs8 h20 hc hL) (fun v h1 hq1 => ?_) (fun X h' hq' => by obtain ⟨_, _, _, _, hq, _⟩ := hq'; rcases hq with ⟨_, h0, _⟩ | ⟨_, h0, _⟩ <;> cases h0)
    obtain ⟨L1, ρ1, sz1, C1, hq1, hc1, hf1⟩ := hq1
    rcases hq1 with ⟨h50, e0, rfl, rfl, rfl⟩ | ⟨h50, e0, hq1⟩
    · cases e0
      have h13 := st0.mp h50
      have hna : ¬ vhd S n a := fun z => z.2 h13
      obtain ⟨hwt, hm⟩ := k2 hna
      obtain ⟨A', dd', W1⟩ := tok_W W ha hna hwt hm
      have eD : dvS S n np a b = hdC (rt0 S a (nI b) m) a n np := by unfold dvS; rw [h35, if_pos rfl, if_pos h13, h38]
      have hc := hc1
      have hf := hf1
      refine jm_if_eq 137 d_B_deliver_46 (by decide) (fun hb9 => absurd hb9 (by decide)) (fun _ => ?_)
      refine jm_aload_n d_B_deliver_49 rfl ?_
      refine jm_aload_n d_B_deliver_50 rfl ?_
      refine cr_call (r := ("BargainTree", jm_F0, 9)) (As := [_]) d_B_deliver_51 l_B_121 iw_B_hold ew_B_hold rfl nv_B_hold rfl (hc.1 1 0 rfl).1 (Nat.le_of_ble_eq_true rfl) (by omega : 3 + 1 ≤ _) (by omega) (by omega) (kw_B_hold (by omega) ha W1) hc hf (fun X L' sz' C' q => by rcases q.2 with ⟨h0, _⟩ | ⟨h0, _⟩ <;> cases h0) (fun v L2 ρ2 sz2 C2 h2 hq2 hc2 hf2 _ => ?_)
      obtain ⟨hk2, hq2⟩ := hq2
      rcases hq2 with ⟨e0, nl2, W2⟩ | ⟨e0, V, nl2, eV, W2, hP⟩
      · cases e0
        refine jm_if_eq 137 d_B_deliver_54 (by decide) (fun _ => ?_) (fun hb9 => absurd rfl hb9)
        exact jm_vret d_B_deliver_137 rfl ⟨L2, ρ2, sz2, C2, ⟨rfl, hk2, nl2, _, _, by rw [eD]; exact W2⟩, hc2, hf2⟩
      · cases e0
        refine jm_if_eq 137 d_B_deliver_54 (by decide) (fun hb9 => absurd hb9 (by decide)) (fun _ => ?_)
        refine jm_aload_n d_B_deliver_57 rfl ?_
        refine jm_aload_n d_B_deliver_58 rfl ?_
        refine jm_iconstL (v := 1) d_B_deliver_59 (by decide) ?_
        rw [← hk2 1 a (by decide) (by decide)]
        refine cr_call (r := ("BargainTree", jm_F0, 9)) (As := [_, _]) d_B_deliver_60 l_B_125 iw_B_makeTable ew_B_makeTable rfl nv_B_makeTable rfl (hc2.1 1 0 rfl).1 (Nat.le_of_ble_eq_true rfl) (by omega : 4 + 1 ≤ _) (by omega) (by omega) (kw_B_makeTable (by omega) (WI_ex a W2) hP) hc2 hf2 (fun X L' sz' C' q => by cases q.1) (fun v L3 ρ3 sz3 C3 h3 hq3 hc3 hf3 _ => ?_)
        obtain ⟨e0, hk3, nl3, W3⟩ := hq3
        cases e0
        refine jm_goto 137 d_B_deliver_63 (by decide) ?_
        exact jm_vret d_B_deliver_137 rfl ⟨L3, ρ3, sz3, C3, ⟨rfl, fun g i h8 h4 => (hk3 g i h8).trans (hk2 g i h8 h4), nl3, _, _, by rw [eD]; rw [eV]; exact W3⟩, hc3, hf3⟩
    · cases e0
      have h13 : S 13 a ≠ 0 := fun z => h50 (st0.mpr z)
      refine jm_if_eq 137 d_B_deliver_46 (by decide) (fun _ => ?_) (fun hb9 => absurd rfl hb9)
      rcases hq1 with ⟨q1, rfl, rfl, rfl⟩ | ⟨q1, hq1⟩
      · have eD : dvS S n np a b = S := by
          unfold dvS; rw [h35, if_pos rfl, if_neg h13, if_neg (fun z => q1 ⟨st2.mpr ⟨h13, z.1⟩, g.2.2.2.2.1.trans z.2⟩)]
        exact jm_vret d_B_deliver_137 rfl ⟨_, _, _, _, ⟨rfl, fun _ _ _ _ => rfl, nl, A, dd, by rw [eD]; exact W⟩, hc1, hf1⟩
      · have z14 := (st2.mp q1.1).2
        have e16 : S 16 a = nI b := g.2.2.2.2.1.symm.trans q1.2
        have eD : dvS S n np a b = pstS S 1 (nI a) (nI b) (S 18 a) := by
          unfold dvS; rw [h35, if_pos rfl, if_neg h13, if_pos ⟨z14, e16⟩]
        rcases hq1 with ⟨q2, -⟩ | ⟨q2, q3, q4, q5⟩
        · rw [q1.2] at q2; exact absurd q2 (nI_m1 (by omega))
        · have P9 := PS_pst (S := S) (w := 1) (a := nI a) (b := nI b) (x := S 18 a) B.1.2.2.2.2.1 h20
          refine jm_vret d_B_deliver_137 rfl ⟨L1, ρ1, sz1, C1, ⟨rfl, fun g i h8 _ => q3 g i h8, nlS nl, A, dd, ?_⟩, hc1, hf1⟩
          rw [eD, q4, q5, q1.2, g.2.2.2.2.2.2.1]
          exact post_W W P9 (fun _ => ⟨a, b, ha, hb, rfl, rfl, Or.inr (Or.inl ⟨rfl, rfl, ⟨ha, z14⟩, ⟨ha, by omega, e16⟩, rfl⟩)⟩) (fun _ => rfl) (fun _ z => absurd z (by decide)) (fun _ z => absurd z (by decide))
  · refine jm_tableIn 66 d_B_deliver_14 (by decide) (by decide) rfl (by decide) ?_
    refine jm_aload_n d_B_deliver_66 rfl ?_
    refine jm_aload_n d_B_deliver_67 rfl ?_
    refine jm_aload_n d_B_deliver_68 rfl ?_
    refine jm_callV (r := ("BargainTree", jm_F0, 9)) (As := [_, _]) d_B_deliver_69 l_B_275 iw_B_takesBack ew_B_takesBack rfl nv_B_takesBack rfl (hc.1 1 0 rfl).1 (Nat.le_of_ble_eq_true rfl) (by omega : 0 + 1 ≤ _) (by omega) (by omega) (k_B_takesBack (a := a) ha1 hE hst hc hL) (fun v h1 hq1 => ?_) (fun X h' hq' => by obtain ⟨_, _, _, _, hq, _⟩ := hq'; rcases hq with ⟨_, h0, _⟩ | ⟨_, h0, _⟩ <;> cases h0)
    obtain ⟨L1, ρ1, sz1, C1, hq1, hc1, hf1⟩ := hq1
    have wt_iff : (C 50 a = 1 ∧ C 51 a = nI b) ↔ S 19 a = nI b := by
      constructor
      · intro z
        obtain ⟨y1, y2⟩ := st1.mp z.1
        rcases D.2.2.1.1 a ⟨ha, y1⟩ (fun y => y.2 y2) with y | ⟨c, y⟩
        · exact absurd y id
        · have := (M.2.2.1 a ha).2 (by rw [y.2.2]; exact nI_m1 (by have := y.2.1; omega))
          rw [← this]; exact z.2
      · intro z
        have wt : vwt S n a b := ⟨ha, by omega, z⟩
        have y := D.1.2.2.2.2.2.1 a b wt
        refine ⟨st1.mpr ⟨y.1.2, Decidable.byContradiction (fun y2 => y.2.1 ⟨ha, y2⟩)⟩, ?_⟩
        rw [(M.2.2.1 a ha).2 (by rw [z]; exact nI_m1 (by omega)), z]
    rcases hq1 with ⟨q1, e0, rfl, rfl, rfl⟩ | ⟨q1, e0, rfl, rfl, rfl⟩
    · cases e0
      refine jm_if_eq 137 d_B_deliver_72 (by decide) (fun _ => ?_) (fun hb9 => absurd rfl hb9)
      have eD : dvS S n np a b = S := by
        unfold dvS; rw [h35, if_neg (by decide), if_pos rfl, if_neg (fun z => q1 (wt_iff.mpr z))]
      exact jm_vret d_B_deliver_137 rfl ⟨_, _, _, _, ⟨rfl, fun _ _ _ _ => rfl, nl, A, dd, by rw [eD]; exact W⟩, hc1, hf1⟩
    · cases e0
      have h19 := wt_iff.mp q1
      have wt : vwt S n a b := ⟨ha, by omega, h19⟩
      have W1 := back_W W wt k2 k4
      have n7 := (B.2.2.2.2.2.2.2.2.2.1 a (by omega)).2.2.2.2.2.1
      have eD : dvS S n np a b = hdC (bk1 S a b) a n np := by
        unfold dvS; rw [h35, if_neg (by decide), if_pos rfl, if_pos h19]
        show _ = hdC (mu _ 19 a (-1)) a n np
        rw [hdC_19]
        show hdC (mu (mu (mu S 18 a (S 38 20)) 20 (8 * a + N S 21 a) (S 36 20)) 21 a (nI (N S 21 a + 1))) a n np = _
        rw [h38, k4, h36]
      have hc := hc1
      have hf := hf1
      refine jm_if_eq 137 d_B_deliver_72 (by decide) (fun hb9 => absurd hb9 (by decide)) (fun _ => ?_)
      refine jm_aload_n d_B_deliver_75 rfl ?_
      refine jm_aload_n d_B_deliver_76 rfl ?_
      refine cr_call (r := ("BargainTree", jm_F0, 9)) (As := [_]) d_B_deliver_77 l_B_121 iw_B_hold ew_B_hold rfl nv_B_hold rfl (hc.1 1 0 rfl).1 (Nat.le_of_ble_eq_true rfl) (by omega : 3 + 1 ≤ _) (by omega) (by omega) (kw_B_hold (by omega) ha W1) hc hf (fun X L' sz' C' q => by rcases q.2 with ⟨h0, _⟩ | ⟨h0, _⟩ <;> cases h0) (fun v L2 ρ2 sz2 C2 h2 hq2 hc2 hf2 _ => ?_)
      obtain ⟨hk2, hq2⟩ := hq2
      rcases hq2 with ⟨e0, nl2, W2⟩ | ⟨e0, V, nl2, eV, W2, hP⟩
      · cases e0
        refine jm_if_eq 137 d_B_deliver_80 (by decide) (fun _ => ?_) (fun hb9 => absurd rfl hb9)
        exact jm_vret d_B_deliver_137 rfl ⟨L2, ρ2, sz2, C2, ⟨rfl, hk2, nl2, _, _, by rw [eD]; exact W2⟩, hc2, hf2⟩
      · cases e0
        refine jm_if_eq 137 d_B_deliver_80 (by decide) (fun hb9 => absurd hb9 (by decide)) (fun _ => ?_)
        refine jm_aload_n d_B_deliver_83 rfl ?_
        refine jm_aload_n d_B_deliver_84 rfl ?_
        refine jm_iconstL (v := 1) d_B_deliver_85 (by decide) ?_
        rw [← hk2 1 a (by decide) (by decide)]
        refine cr_call (r := ("BargainTree", jm_F0, 9)) (As := [_, _]) d_B_deliver_86 l_B_125 iw_B_makeTable ew_B_makeTable rfl nv_B_makeTable rfl (hc2.1 1 0 rfl).1 (Nat.le_of_ble_eq_true rfl) (by omega : 4 + 1 ≤ _) (by omega) (by omega) (kw_B_makeTable (by omega) (WI_ex a W2) hP) hc2 hf2 (fun X L' sz' C' q => by cases q.1) (fun v L3 ρ3 sz3 C3 h3 hq3 hc3 hf3 _ => ?_)
        obtain ⟨e0, hk3, nl3, W3⟩ := hq3
        cases e0
        refine jm_goto 137 d_B_deliver_89 (by decide) ?_
        exact jm_vret d_B_deliver_137 rfl ⟨L3, ρ3, sz3, C3, ⟨rfl, fun g i h8 h4 => (hk3 g i h8).trans (hk2 g i h8 h4), nl3, _, _, by rw [eD]; rw [eV]; exact W3⟩, hc3, hf3⟩
  · refine jm_tableIn 92 d_B_deliver_14 (by decide) (by decide) rfl (by decide) ?_
    refine jm_aload_n d_B_deliver_92 rfl ?_
    refine jm_aload_n d_B_deliver_93 rfl ?_
    refine jm_aload_n d_B_deliver_94 rfl ?_
    have mc := M.2.2.2.1 a ha
    have n7 := (B.2.2.2.2.2.2.2.2.2.1 a (by omega)).2.2.2.2.2.1.2
    have p8 := D.1.2.2.2.2.2.2.2 b a k3
    obtain ⟨k, hk, ek⟩ := kid_ix B D k3 ha
    have uq := kid_uq B D CDh ha hb hk ek p8.1
    have c7 : chn S a ≤ 7 := by
      by_cases z : S 19 a = -1
      · show N S 21 a + (if S 19 a = -1 then 0 else 1) ≤ 7; rw [if_pos z]; exact n7
      · have := hc.B.2.2.2 a; rw [← mc.2.1]; exact this
    refine jm_callV (r := ("BargainTree", jm_F0, 9)) (As := [_, _]) d_B_deliver_95 l_B_278 iw_B_takesTable ew_B_takesTable rfl nv_B_takesTable rfl (hc.1 1 0 rfl).1 (Nat.le_of_ble_eq_true rfl) (by omega : 1 + 1 ≤ _) (by omega) (by omega) (k_B_takesTable (a := a) (cc := chn S a) (by omega) ha1 hE hst mc.1 mc.2.1 c7 (fun j hj => by obtain ⟨c, z1, z2⟩ := kid_c B a j ha hj; exact ⟨c, by rw [hs1]; exact z1, by rw [(mc.2.2 j hj).1]; exact z2⟩) hc hL) (fun v h1 hq1 => ?_) (fun X h' hq' => by obtain ⟨_, _, _, _, hq, _⟩ := hq'; rcases hq with ⟨_, h0, _⟩ | ⟨_, _, _, _, h0, _⟩ <;> cases h0)
    obtain ⟨L1, ρ1, sz1, C1, hq1, hc1, hf1⟩ := hq1
    have gk := mc.2.2 k hk
    rw [ek, nI_clamp (by omega)] at gk
    have n23 := (B.2.2.2.2.2.2.2.2.2.1 b (by omega)).2.2.2.2.2.2.2.2.2.2
    have BT := B.2.2.2.2.2.2.2.2.2.2.2
    have found : ∀ j, j < chn S a → cfR (C 53) a (nI b) (chn S a) 0 = nI j → j = k := fun j hj z => by
      rcases cfR_ix (ca := C 53) (a := a) (b := nI b) (chn S a) 0 with ⟨y, -⟩ | ⟨y, y1, y2, y3, y4⟩
      · rw [y] at z; exact absurd z.symm (nI_m1 (by omega))
      · have e9 : j = y := (nI_eq (by omega) (by omega)).mp (z.symm.trans y3)
        rw [e9]
        exact (uq a y ha (by omega) (by rw [← (mc.2.2 y (by omega)).1]; exact y4)).2
    have le_iff : ∀ r : Nat, m = nI r → r < 2 ^ 31 → (m ≤ C 54 (8 * a + k) ↔ r ≤ vtq S n b) := fun r e9 hr => by
      rw [gk.2.1, n23.1, e9]
      have e8 : vtq S n b = N S 23 (8 + b) := by unfold vtq; rw [if_pos hb]
      rw [e8]
      exact nI_leI hr (by have := n23.2; omega)
    obtain ⟨r, r1, r2, r3, r4⟩ := k8
    have eD0 : dvS S n np a b = if ¬ m ≤ S 23 (8 + b) then wkC (tb0 S b) a m np else S := by
      unfold dvS; rw [h35, if_neg (by decide), if_neg (by decide), if_pos rfl, h38]
    rcases hq1 with ⟨q1, e0, eL, eS, eC⟩ | ⟨j, hj, ej, q1, e0, rfl, rfl, rfl⟩
    · cases e0
      have hle : m ≤ C 54 (8 * a + k) := by
        rcases q1 with q1 | ⟨j, hj, ej, q1⟩
        · rcases cfR_ix (ca := C 53) (a := a) (b := nI b) (chn S a) 0 with ⟨y, y1⟩ | ⟨y, y1, y2, y3, y4⟩
          · exact absurd (gk.1) (y1 k (Nat.zero_le _) (by omega))
          · rw [q1] at y3; exact absurd y3.symm (nI_m1 (by omega))
        · rw [← found j hj ej]; exact q1
      refine jm_if_eq 137 d_B_deliver_98 (by decide) (fun _ => ?_) (fun hb9 => absurd rfl hb9)
      have eD : dvS S n np a b = S := by rw [eD0, if_neg (fun z => z (by rw [← gk.2.1]; exact hle))]
      exact jm_vret d_B_deliver_137 rfl ⟨L1, ρ1, sz1, C1, ⟨rfl, fun _ _ _ _ => by rw [eL], nl, A, dd, by rw [eD, eS, eC]; exact W⟩, hc1, hf1⟩
    · have ek2 := found j hj ej
      subst ek2
      have eD : dvS S n np a b = wkC (tb0 S b) a m np := by rw [eD0, if_pos (by rw [← gk.2.1]; exact q1)]
      have nle : ¬ r ≤ vtq S n b := fun z => q1 ((le_iff r r3 r2).mpr z)
      obtain ⟨s1, s2, s3⟩ := r4.resolve_left nle
      have hu : vtq S n b < vtr S n b := by omega
      have n39 : N S 39 20 = wd S b := N_nI k5 (by omega)
      obtain ⟨W1, Wy, Wn⟩ := dlv_W (w := w) (e := e) W k3 hk ek hu h38.symm (by rw [h38, r3, s1]) k4 k5 s3 (by rw [hw, if_pos rfl]) (fun i hi => he2 rfl i (by rw [n39]; exact hi))
      have ha55 : (C 50 a = 2 ∧ haCR (tt0 C a j m w e 55) a (chn S a) = true) ↔ haN (tb0 S b) a (N S 21 a) = true := by
        have lo : ∀ y, y ≠ 23 → y ≠ 24 → y ≠ 25 → y ≠ 26 → (tb0 S b) y = S y := fun y q1 q2 q3 q4 => by funext i; simp [tb0, cpB, tb1, mu, q1, q2, q3, q4]
        have mc1 := W1.2.2.1.2.2.2.1 a ha
        have en : chn (tb0 S b) a = chn S a := by show N (tb0 S b) 21 a + (if (tb0 S b) 19 a = -1 then 0 else 1) = _; simp only [N, lo 21 (by decide) (by decide) (by decide) (by decide), lo 19 (by decide) (by decide) (by decide) (by decide)]
        have B1 := W1.2.1
        have key : S 14 a ≠ 0 → S 13 a ≠ 0 → (haCR (tt0 C a j m w e 55) a (chn S a) = true ↔ haN (tb0 S b) a (N S 21 a) = true) := fun z1 z2 => by
          have tha : vth S n a := ⟨ha, z1⟩
          have cn : chn S a = N S 21 a := chn_th B D ha tha
          rw [cn]
          have step : ∀ y, y ≤ N S 21 a → haCR (tt0 C a j m w e 55) a y = haR ((tb0 S b) 14 a) ((tb0 S b) 20) ((tb0 S b) 23) a y := by
            intro y
            induction y with
            | zero => intro _; rw [haCR, haR, lo 14 (by decide) (by decide) (by decide) (by decide), decide_eq_true z1]
            | succ y ih =>
              intro hy
              rw [haCR, haR, ih (by omega)]
              have gy := mc1.2.2 y (by rw [en, cn]; omega)
              obtain ⟨c, hcn, ec⟩ := kid_c B1 a y ha (by rw [en, cn]; omega)
              have ed : chd (tb0 S b) a y = (tb0 S b) 20 (8 * a + y) := by
                show (if y < N (tb0 S b) 21 a then _ else _) = _
                rw [if_pos (by show y < ((tb0 S b) 21 a).toNatClampNeg; rw [lo 21 (by decide) (by decide) (by decide) (by decide)]; exact hy)]
              rw [ec, nI_clamp (by omega)] at gy
              rw [← ed, ec, nI_clamp (by omega), gy.2.2.1]
              refine congrArg (_ && ·) (decide_eq_decide.mpr ?_)
              have nn := (B1.2.2.2.2.2.2.2.2.2.1 c (by omega)).2.2.2.2.2.2.2.2.2.2
              by_cases z : (tb0 S b) 23 (8 + c) = 0
              · rw [if_pos z, z]; exact ⟨fun w => absurd rfl w, fun w => absurd (by decide) w⟩
              · rw [if_neg z]
                have pos : 0 < N (tb0 S b) 23 (8 + c) := by
                  rcases Nat.eq_zero_or_pos (N (tb0 S b) 23 (8 + c)) with w | w
                  · exact absurd (by rw [nn.1, w]; rfl) z
                  · exact w
                have t := W1.2.2.2.1.2.2.2.1.2 c (by unfold vtq; rw [if_pos hcn]; exact pos)
                refine ⟨fun _ => ?_, fun _ => by rw [t.2.1]; exact nI_m1 (wd_31 B1 c)⟩
                rw [nn.1]
                exact nI_ge (a := 0) pos (by have := nn.2; omega)
          rw [step _ (Nat.le_refl _)]
        constructor
        · intro z
          obtain ⟨z2, z1⟩ := st2.mp z.1
          exact (key z1 z2).mp z.2
        · intro z
          have z1 := (Wy z).1.2
          rw [lo 14 (by decide) (by decide) (by decide) (by decide)] at z1
          have z2 := (D.1.2.1 a ⟨ha, z1⟩).2
          exact ⟨st2.mpr ⟨z2, z1⟩, (key z1 z2).mpr z⟩
      by_cases hy : haN (tb0 S b) a (N S 21 a) = true
      · rw [if_pos (ha55.mpr hy)] at e0
        cases e0
        refine jm_if_eq 137 d_B_deliver_98 (by decide) (fun hb9 => absurd hb9 (by decide)) (fun _ => ?_)
        have hc := hc1
        have hf := hf1
        obtain ⟨y1, y2, y3, y4, y5, y6, y7, y8⟩ := Wy hy
        refine jm_aload_n d_B_deliver_101 rfl ?_
        refine jm_aload_n d_B_deliver_102 rfl ?_
        refine jm_aload_n d_B_deliver_103 rfl ?_
        refine cr_l3G (fin := false) d_B_deliver_104 f_B_161 (LET_xt hL hf1) ?_
        refine cr_call (r := ("BargainTree", jm_F0, 9)) (As := [_, _]) d_B_deliver_107 l_B_125 iw_B_makeTable ew_B_makeTable rfl nv_B_makeTable rfl (hc.1 1 0 rfl).1 (Nat.le_of_ble_eq_true rfl) (by omega : 4 + 1 ≤ _) (by omega) (by omega) (kw_B_makeTable (by omega) W1 ⟨ha, y8, y1, y2, y3, y4, y5, y6, y7⟩) hc hf (fun X L' sz' C' q => by cases q.1) (fun v L3 ρ3 sz3 C3 h3 hq3 hc3 hf3 _ => ?_)
        obtain ⟨e0, hk3, nl3, W3⟩ := hq3
        cases e0
        refine jm_goto 137 d_B_deliver_110 (by decide) ?_
        exact jm_vret d_B_deliver_137 rfl ⟨L3, ρ3, sz3, C3, ⟨rfl, fun g i h8 _ => hk3 g i h8, nl3, A, dd, by rw [eD]; exact W3⟩, hc3, hf3⟩
      · rw [if_neg (fun z => hy (ha55.mp z))] at e0
        cases e0
        refine jm_if_eq 137 d_B_deliver_98 (by decide) (fun _ => ?_) (fun hb9 => absurd rfl hb9)
        have v0 := Wn hy
        have eD2 : wkC (tb0 S b) a m np = tb0 S b := by
          show wkS (tb0 S b) a m np (N (tb0 S b) 21 a) _ _ = _
          have e21 : N (tb0 S b) 21 a = N S 21 a := by simp [N, tb0, cpB, tb1, mu]
          unfold wkS; rw [e21, if_neg hy]
        obtain ⟨x1, x2, x3, x4, x5, x6, x7⟩ := W1
        exact jm_vret d_B_deliver_137 rfl ⟨_, _, _, _, ⟨rfl, fun _ _ _ _ => rfl, nl, A, dd, by rw [eD, eD2]; exact ⟨x1, x2, x3, (IX8 n8).mpr (IX_to x4 v0), x5, x6, x7⟩⟩, hc1, hf1⟩
  · refine jm_tableOut 113 d_B_deliver_14 (by decide) (by decide) ?_
    have n28 := (B.2.2.2.2.2.2.2.2.2.1 a (by omega)).2.2.2.2.2.2.2.1
    have BT := B.2.2.2.2.2.2.2.2.2.2.2
    obtain ⟨r, r1, r2, r3, r4⟩ := k5
    have le_iff : m ≤ C 28 a ↔ r ≤ vst S n a := by
      rw [g.2.2.2.2.2.2.2.2.2, n28.1, r3]
      have e8 : vst S n a = N S 28 a := by unfold vst; rw [if_pos ha]
      rw [e8]
      exact nI_leI r2 (by have := n28.2; omega)
    have eD0 : dvS S n np a b = if ¬ m ≤ S 28 a then chC (ch0 S a) a m np else S := by
      unfold dvS; rw [h35, if_neg (by decide), if_neg (by decide), if_neg (by decide), h38]
    refine jm_aload_n d_B_deliver_113 rfl ?_
    refine cr_l3G (fin := false) d_B_deliver_114 f_B_161 (LET_xt hL hf) ?_
    refine jm_aload_n d_B_deliver_117 rfl ?_
    refine cr_get 28 a d_B_deliver_118 f_B_281 hc (show a < sz 1 0 by omega) rfl rfl rfl (v := .int (C 28 a)) rfl ?_
    refine jm_icmp_le 137 d_B_deliver_121 (by decide) (fun hb121 => ?_) (fun hb121 => ?_)
    · have eD : dvS S n np a b = S := by rw [eD0, if_neg (fun z => z (by rw [← g.2.2.2.2.2.2.2.2.2]; exact hb121))]
      exact jm_vret d_B_deliver_137 rfl ⟨_, _, _, _, ⟨rfl, fun _ _ _ _ => rfl, nl, A, dd, by rw [eD]; exact W⟩, hc, hf⟩
    · have eD : dvS S n np a b = chC (ch0 S a) a m np := by rw [eD0, if_pos (by rw [← g.2.2.2.2.2.2.2.2.2]; exact hb121)]
      have nle : ¬ r ≤ vst S n a := fun z => hb121 (le_iff.mpr z)
      obtain ⟨s1, s2, s3⟩ := r4.resolve_left nle
      refine jm_aload_n d_B_deliver_124 rfl ?_
      refine jm_aload_n d_B_deliver_125 rfl ?_
      refine jm_aload_n d_B_deliver_126 rfl ?_
      refine cr_l3G (fin := false) d_B_deliver_127 f_B_161 (LET_xt hL hf) ?_
      refine jm_aload_n d_B_deliver_130 rfl ?_
      refine cr_l4G (fin := false) d_B_deliver_131 f_B_284 (LET_xt hL hf) (fun v9 hT9 => ?_)
      rcases hT9 with ⟨hw9, -⟩ | ⟨vq, n9, rfl, hw9, hn9, hq9, h09, hi9⟩
      · rw [hw, if_neg (by decide), if_pos rfl] at hw9; exact absurd hw9 (by decide)
      have n98 : n9 = 8 := by
        rw [hw, if_neg (by decide), if_pos rfl] at hw9
        exact ((nI_eq (a := 8) (by decide) (by omega)).mp hw9).symm
      subst n98
      refine jm_callV (r := ("BargainTree", jm_F0, 9)) (As := [_, _, _]) d_B_deliver_134 l_B_287 iw_B_choose ew_B_choose rfl nv_B_choose rfl (hc.1 1 0 rfl).1 (Nat.le_of_ble_eq_true rfl) (by omega : 3 + 1 ≤ _) (by omega) (by omega) (kw_B_choose (by omega) W k2 s2 (by omega) (by rw [r3, s1]) k3 s3 (fun y hy => rfl) (fun y hy => he3 rfl y hy) hc ⟨hq9, hi9⟩) (fun v h1 hq1 => ?_) (fun X h' hq' => by obtain ⟨_, _, _, _, hq, _⟩ := hq'; cases hq.1)
      obtain ⟨L3, ρ3, sz3, C3, ⟨e0, hk3, nl3, W3⟩, hc3, hf3⟩ := hq1
      cases e0
      exact jm_vret d_B_deliver_137 rfl ⟨L3, ρ3, sz3, C3, ⟨rfl, fun g i h8 _ => hk3 g i h8, nl3, A, dd, by rw [eD]; exact W3⟩, hc3, hf.tr hf3⟩
end
