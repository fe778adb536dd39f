/-! THE CLASS: send, sendToken, sendBack, sendTable, sendChoices. Written by wip/whole/gen/p65.py -/
section
variable {Γ : jm_G} {d : Nat} {h h0 : jm_H} {x : Nat} {L : Nat → Nat → Nat} {ρ ρ0 : Nat → Nat} {sz : Nat → Nat → Nat} {C : mS}
abbrev nlS (nl : Nat) : Nat := if nl < 20 then nl + 1 else nl
abbrev kL8 (L L' : Nat → Nat → Nat) : Prop := ∀ g i, g ≠ 8 → L' g i = L g i
/-- a letter sent -/
def sndC (C : mS) (nl : Nat) (a b c e w : Int32) (f : Nat → Int32) : mS := if nl < 20 then mu (ltS C nl a b c e w f) 34 0 (nI (nl + 1)) else C
theorem lu_id {g i q : Nat} (h : L g i = q) : lu L g i q = L := by
  funext g' i'
  unfold lu
  split
  · rename_i e; rw [e.1, e.2, h]
  · rfl
theorem TB_wp {q t i : Nat} {y v : Value} {w : Int32} {f : Nat → Int32} (hT : TB h ρ v w f) (h6 : ρ q = 6) : TB (jm_set h t i q y) ρ v w f := by
  rcases hT with hT | ⟨r, n, t1, t2, t3, t4, t5, t6⟩
  · exact Or.inl hT
  · have hrq : r ≠ q := fun e => by rw [e, h6] at t5; cases t5
    exact Or.inr ⟨r, n, t1, t2, t3, t4, t5, fun i hi => by simp [jm_set, hrq]; exact t6 i hi⟩
theorem TB_rl {q a : Nat} {v : Value} {w : Int32} {f : Nat → Int32} (hT : TB h ρ v w f) (h6 : ρ q = 6) : TB h (rl ρ q a) v w f := by
  rcases hT with hT | ⟨r, n, t1, t2, t3, t4, t5, t6⟩
  · exact Or.inl hT
  · have hrq : r ≠ q := fun e => by rw [e, h6] at t5; cases t5
    exact Or.inr ⟨r, n, t1, t2, t3, t4, (rl_ne hrq).trans t5, t6⟩
/-- a letter made, and frozen -/
theorem co_lm {q : Nat} {a b c e w : Int32} {v : Value} {f : Nat → Int32} (hc : co Γ h x L ρ sz C) (hf : xt ρ0 h0 ρ h) (h6 : ρ q = 6) (hq0 : h0.1 q = none) (hq : h.1 q = some (5, 0)) (hT : TB h ρ v w f) :
    co Γ (jm_set (jm_set (jm_set (jm_set (jm_set h 5 0 q (.int a)) 5 1 q (.int b)) 5 2 q (.int c)) 5 3 q (.int e)) 5 4 q v) x L (rl ρ q 0) sz C ∧ xt ρ0 h0 (rl ρ q 0) (jm_set (jm_set (jm_set (jm_set (jm_set h 5 0 q (.int a)) 5 1 q (.int b)) 5 2 q (.int c)) 5 3 q (.int e)) 5 4 q v) ∧
    LET (jm_set (jm_set (jm_set (jm_set (jm_set h 5 0 q (.int a)) 5 1 q (.int b)) 5 2 q (.int c)) 5 3 q (.int e)) 5 4 q v) (rl ρ q 0) q a b c e w f := by
  refine ⟨co_rl (co_wp (co_wp (co_wp (co_wp (co_wp hc h6) h6) h6) h6) h6) h6, xt_rl (xt_wp (xt_wp (xt_wp (xt_wp (xt_wp hf hq0) hq0) hq0) hq0) hq0) hq0, hq, rl_eq, by simp [jm_set], by simp [jm_set], by simp [jm_set], by simp [jm_set], ?_⟩
  have e4 : (jm_set (jm_set (jm_set (jm_set (jm_set h 5 0 q (.int a)) 5 1 q (.int b)) 5 2 q (.int c)) 5 3 q (.int e)) 5 4 q v).2 5 4 q = v := by simp [jm_set]
  rw [e4]
  exact TB_rl (TB_wp (TB_wp (TB_wp (TB_wp (TB_wp hT h6) h6) h6) h6) h6) h6
theorem k_B_send {nl q : Nat} {a b c e w : Int32} {f : Nat → Int32} (hn : C 34 0 = nI nl) (hs : sz 8 0 = nl) (h20 : nl ≤ 20) (hc : co Γ h x L ρ sz C) (hL : LET h ρ q a b c e w f) :
    jm_M Γ m_B_send d [.ref x, .ref q] h 0 0 (fun oc h' => oc = .inl none ∧ ∃ L' ρ', kL8 L L' ∧ co Γ h' x L' ρ' (lu sz 8 0 (nlS nl)) (sndC C nl a b c e w f) ∧ xt ρ h ρ' h') := by
  have hf : xt ρ h ρ h := xt.rf
  refine jm_entry (by decide +kernel) (List.forall_mem_cons.mpr ⟨rfl, List.forall_mem_cons.mpr ⟨rfl, fun _ h => nomatch h⟩⟩) (Nat.le_of_ble_eq_true rfl) ?_
  show jm_W _ _ _ _ _ _ 0 [some (.ref x), some (.ref q)] [] _
  refine jm_aload_n d_B_send_0 rfl ?_
  refine cr_get 34 0 d_B_send_1 f_B_139 hc rfl rfl rfl rfl (v := .int (C 34 0)) rfl ?_
  refine jm_bipushL (v := nI 20) d_B_send_4 (by decide) ?_
  rw [hn]
  refine jm_icmp_ge 29 d_B_send_6 (by decide) (fun hb6 => ?_) (fun hb6 => ?_)
  · have h20' : ¬ nl < 20 := fun q => absurd hb6 (nI_ge q (by omega))
    exact jm_vret d_B_send_29 rfl ⟨rfl, L, ρ, fun _ _ _ => rfl, by rw [nlS, sndC, if_neg h20', if_neg h20', lu_id hs]; exact hc, hf⟩
  · have h20' : nl < 20 := by
      rcases Nat.lt_or_ge nl 20 with q | q
      · exact q
      · exact absurd (nI_le q (by omega)) hb6
    refine jm_aload_n d_B_send_9 rfl ?_
    refine cr_get 80 0 d_B_send_10 f_B_23 hc rfl rfl rfl rfl (v := .ref (L 0 2)) rfl ?_
    refine jm_aload_n d_B_send_13 rfl ?_
    refine cr_get 34 0 d_B_send_14 f_B_139 hc rfl rfl rfl rfl (v := .int (C 34 0)) rfl ?_
    rw [hn]
    refine jm_aload_n d_B_send_17 rfl ?_
    refine jm_aastore 5 d_B_send_18 (by decide) hc.2.1.2.2.2.2.1 (vp_in_nI h20' (by decide)) hL.1 rfl rfl ?_
    rw [nI_clamp (show nl < 2 ^ 31 by omega)]
    obtain ⟨hc, hf⟩ := co_la hc hf (show nl ≤ sz 8 0 by omega) h20' hL
    rw [if_neg (show ¬ nl < sz 8 0 by omega)] at hc
    have e34 : ltS C nl a b c e w f 34 0 = nI nl := by simp [ltS, tbS, mu]; exact hn
    refine jm_aload_n d_B_send_19 rfl ?_
    refine jm_dup d_B_send_20 rfl ?_
    refine cr_get 34 0 d_B_send_21 f_B_139 hc rfl rfl rfl rfl (v := .int (nI nl)) (by show Value.int (ltS C nl a b c e w f 34 0) = _; rw [e34]) ?_
    refine jm_iconstL (v := 1) d_B_send_24 (by decide) ?_
    refine jm_iadd d_B_send_25 ?_
    rw [nI_1]
    refine cr_put 34 0 _ d_B_send_26 f_B_139 hc hf rfl rfl rfl rfl (by decide) (by decide) rfl rfl rfl (fun h hc hf => ?_)
    exact jm_vret d_B_send_29 rfl ⟨rfl, lu L 8 nl q, _, fun g i hg => if_neg (fun z => hg z.1), by rw [nlS, sndC, if_pos h20', if_pos h20']; exact hc, hf⟩
end
section
variable {Γ : jm_G} {d x : Nat} {L sz : Nat → Nat → Nat} {C : mS} {h : jm_H} {ρ : Nat → Nat}
theorem k_B_sendToken {a nl : Nat} (hd : 2 ≤ d) (ha : a < sz 1 0) (hn : C 34 0 = nI nl) (hs : sz 8 0 = nl) (h20 : nl ≤ 20) : cM Γ m_B_sendToken d x [.ref x, .ref (L 1 a)] L sz C 1 5 (fun oc L' sz' C' => oc = .inl none ∧ kL8 L L' ∧ sz' = lu sz 8 0 (nlS nl) ∧ C' = sndC C nl 0 (nI a) (C 51 a) (C 18 a) (-1) (fun _ => 0)) := by
  intro h ρ hc
  have hf : xt ρ h ρ h := xt.rf
  refine jm_entry (by decide +kernel) (List.forall_mem_cons.mpr ⟨rfl, List.forall_mem_cons.mpr ⟨rfl, fun _ h => nomatch h⟩⟩) (Nat.le_of_ble_eq_true rfl) ?_
  show jm_W _ _ _ _ _ _ 0 [some (.ref x), some (.ref (L 1 a))] [] _
  refine jm_aload_n d_B_sendToken_0 rfl ?_
  refine jm_newobj (ci := 5) (N := 5) (dv := fun j => defaultValue (jm_Y5 j)) d_B_sendToken_1 rfl c_B_21 n_L z_L jm_Y5 jm_yok5 (fun _ _ => rfl) (by omega) (by omega) (fun q hq9 => ?_)
  have hc := co_nw (kn := (5, 0)) (dv := fun j => defaultValue (jm_Y5 j)) hc hq9 6
  obtain ⟨hf, hq0⟩ := xt_nw (kn := (5, 0)) (dv := fun j => defaultValue (jm_Y5 j)) hf hq9 6
  have kq : (jm_new h q (5, 0) (fun j => defaultValue (jm_Y5 j))).1 q = some (5, 0) := if_pos rfl
  refine jm_dup d_B_sendToken_4 rfl ?_
  refine jm_iconstL (v := 0) d_B_sendToken_5 (by decide) ?_
  refine jm_aload_n d_B_sendToken_6 rfl ?_
  refine cr_getG 71 a d_B_sendToken_7 f_B_294 hc (show a < sz 1 0 by omega) rfl rfl rfl (v := .int (nI a)) rfl ?_
  refine jm_aload_n d_B_sendToken_10 rfl ?_
  refine cr_get 51 a d_B_sendToken_11 f_B_297 hc (show a < sz 1 0 by omega) rfl rfl rfl (v := .int (C 51 a)) rfl ?_
  refine jm_aload_n d_B_sendToken_14 rfl ?_
  refine cr_get 18 a d_B_sendToken_15 f_B_118 hc (show a < sz 1 0 by omega) rfl rfl rfl (v := .int (C 18 a)) rfl ?_
  refine jm_null d_B_sendToken_18 ?_
  refine jm_callI (As := [_, _, _, _, _]) d_B_sendToken_19 rfl rfl rfl l_B_376 iw_L_init nv_L_init rfl (Nat.le_of_ble_eq_true rfl) (by omega : 1 + 1 ≤ _) (by omega) (by omega) (k_L_initN (by omega) kq) (fun v h' hq' => ?_) (fun X h' hq' => by cases hq'.1)
  obtain ⟨e0, rfl⟩ := hq'
  cases e0
  obtain ⟨hc, hf, hL⟩ := co_lm hc hf rl_eq hq0 kq (Or.inl ⟨rfl, rfl⟩) (w := -1) (f := fun _ => 0)
  refine jm_callV (r := ("BargainTree", jm_F0, 9)) (As := [_]) d_B_sendToken_22 l_B_379 iw_B_send ew_B_send rfl nv_B_send rfl (hc.1 1 0 rfl).1 (Nat.le_of_ble_eq_true rfl) (by omega : 0 + 1 ≤ _) (by omega) (by omega) (k_B_send hn hs h20 hc hL) (fun v h' hq' => ?_) (fun X h' hq' => by cases hq'.1)
  obtain ⟨e0, L', ρ', hk, hc', hf'⟩ := hq'
  cases e0
  have hf := hf.tr hf'
  exact jm_vret d_B_sendToken_25 rfl ⟨L', ρ', _, _, ⟨rfl, hk, rfl, rfl⟩, hc', hf⟩
theorem k_B_sendBack {a nl : Nat} (hd : 2 ≤ d) (ha : a < sz 1 0) (hn : C 34 0 = nI nl) (hs : sz 8 0 = nl) (h20 : nl ≤ 20) : cM Γ m_B_sendBack d x [.ref x, .ref (L 1 a)] L sz C 1 5 (fun oc L' sz' C' => oc = .inl none ∧ ((C 16 a = -1 ∧ L' = L ∧ sz' = sz ∧ C' = C) ∨ (C 16 a ≠ -1 ∧ kL8 L L' ∧ sz' = lu sz 8 0 (nlS nl) ∧ C' = sndC C nl 1 (nI a) (C 16 a) (C 18 a) (-1) (fun _ => 0)))) := by
  intro h ρ hc
  have hf : xt ρ h ρ h := xt.rf
  refine jm_entry (by decide +kernel) (List.forall_mem_cons.mpr ⟨rfl, List.forall_mem_cons.mpr ⟨rfl, fun _ h => nomatch h⟩⟩) (Nat.le_of_ble_eq_true rfl) ?_
  show jm_W _ _ _ _ _ _ 0 [some (.ref x), some (.ref (L 1 a))] [] _
  refine jm_aload_n d_B_sendBack_0 rfl ?_
  refine cr_get 16 a d_B_sendBack_1 f_B_239 hc (show a < sz 1 0 by omega) rfl rfl rfl (v := .int (C 16 a)) rfl ?_
  refine jm_iconstL (v := (-1)) d_B_sendBack_4 (by decide) ?_
  refine jm_icmp_eq 33 d_B_sendBack_5 (by decide) (fun hb5 => ?_) (fun hb5 => ?_)
  · exact jm_vret d_B_sendBack_33 rfl ⟨_, _, _, _, ⟨rfl, Or.inl ⟨hb5, rfl, rfl, rfl⟩⟩, hc, hf⟩
  · refine jm_aload_n d_B_sendBack_8 rfl ?_
    refine jm_newobj (ci := 5) (N := 5) (dv := fun j => defaultValue (jm_Y5 j)) d_B_sendBack_9 rfl c_B_21 n_L z_L jm_Y5 jm_yok5 (fun _ _ => rfl) (by omega) (by omega) (fun q hq9 => ?_)
    have hc := co_nw (kn := (5, 0)) (dv := fun j => defaultValue (jm_Y5 j)) hc hq9 6
    obtain ⟨hf, hq0⟩ := xt_nw (kn := (5, 0)) (dv := fun j => defaultValue (jm_Y5 j)) hf hq9 6
    have kq : (jm_new h q (5, 0) (fun j => defaultValue (jm_Y5 j))).1 q = some (5, 0) := if_pos rfl
    refine jm_dup d_B_sendBack_12 rfl ?_
    refine jm_iconstL (v := 1) d_B_sendBack_13 (by decide) ?_
    refine jm_aload_n d_B_sendBack_14 rfl ?_
    refine cr_getG 71 a d_B_sendBack_15 f_B_294 hc (show a < sz 1 0 by omega) rfl rfl rfl (v := .int (nI a)) rfl ?_
    refine jm_aload_n d_B_sendBack_18 rfl ?_
    refine cr_get 16 a d_B_sendBack_19 f_B_239 hc (show a < sz 1 0 by omega) rfl rfl rfl (v := .int (C 16 a)) rfl ?_
    refine jm_aload_n d_B_sendBack_22 rfl ?_
    refine cr_get 18 a d_B_sendBack_23 f_B_118 hc (show a < sz 1 0 by omega) rfl rfl rfl (v := .int (C 18 a)) rfl ?_
    refine jm_null d_B_sendBack_26 ?_
    refine jm_callI (As := [_, _, _, _, _]) d_B_sendBack_27 rfl rfl rfl l_B_376 iw_L_init nv_L_init rfl (Nat.le_of_ble_eq_true rfl) (by omega : 1 + 1 ≤ _) (by omega) (by omega) (k_L_initN (by omega) kq) (fun v h' hq' => ?_) (fun X h' hq' => by cases hq'.1)
    obtain ⟨e0, rfl⟩ := hq'
    cases e0
    obtain ⟨hc, hf, hL⟩ := co_lm hc hf rl_eq hq0 kq (Or.inl ⟨rfl, rfl⟩) (w := -1) (f := fun _ => 0)
    refine jm_callV (r := ("BargainTree", jm_F0, 9)) (As := [_]) d_B_sendBack_30 l_B_379 iw_B_send ew_B_send rfl nv_B_send rfl (hc.1 1 0 rfl).1 (Nat.le_of_ble_eq_true rfl) (by omega : 0 + 1 ≤ _) (by omega) (by omega) (k_B_send hn hs h20 hc hL) (fun v h' hq' => ?_) (fun X h' hq' => by cases hq'.1)
    obtain ⟨e0, L', ρ', hk, hc', hf'⟩ := hq'
    cases e0
    have hf := hf.tr hf'
    exact jm_vret d_B_sendBack_33 rfl ⟨L', ρ', _, _, ⟨rfl, Or.inr ⟨hb5, hk, rfl, rfl⟩⟩, hc', hf⟩
theorem k_B_sendTable {a nl : Nat} (hd : 2 ≤ d) (ha : a < sz 1 0) (h57 : C 57 a ≠ -1) (hn : C 34 0 = nI nl) (hs : sz 8 0 = nl) (h20 : nl ≤ 20) : cM Γ m_B_sendTable d x [.ref x, .ref (L 1 a)] L sz C 1 5 (fun oc L' sz' C' => oc = .inl none ∧ ((C 16 a = -1 ∧ L' = L ∧ sz' = sz ∧ C' = C) ∨ (C 16 a ≠ -1 ∧ kL8 L L' ∧ sz' = lu sz 8 0 (nlS nl) ∧ C' = sndC C nl 2 (nI a) (C 16 a) (C 23 a) (C 57 a) (fun i => C 58 (256 * a + i))))) := by
  intro h ρ hc
  have hf : xt ρ h ρ h := xt.rf
  refine jm_entry (by decide +kernel) (List.forall_mem_cons.mpr ⟨rfl, List.forall_mem_cons.mpr ⟨rfl, fun _ h => nomatch h⟩⟩) (Nat.le_of_ble_eq_true rfl) ?_
  show jm_W _ _ _ _ _ _ 0 [some (.ref x), some (.ref (L 1 a))] [] _
  refine jm_aload_n d_B_sendTable_0 rfl ?_
  refine cr_get 16 a d_B_sendTable_1 f_B_239 hc (show a < sz 1 0 by omega) rfl rfl rfl (v := .int (C 16 a)) rfl ?_
  refine jm_iconstL (v := (-1)) d_B_sendTable_4 (by decide) ?_
  refine jm_icmp_eq 36 d_B_sendTable_5 (by decide) (fun hb5 => ?_) (fun hb5 => ?_)
  · exact jm_vret d_B_sendTable_36 rfl ⟨_, _, _, _, ⟨rfl, Or.inl ⟨hb5, rfl, rfl, rfl⟩⟩, hc, hf⟩
  · refine jm_aload_n d_B_sendTable_8 rfl ?_
    refine jm_newobj (ci := 5) (N := 5) (dv := fun j => defaultValue (jm_Y5 j)) d_B_sendTable_9 rfl c_B_21 n_L z_L jm_Y5 jm_yok5 (fun _ _ => rfl) (by omega) (by omega) (fun q hq9 => ?_)
    have hc := co_nw (kn := (5, 0)) (dv := fun j => defaultValue (jm_Y5 j)) hc hq9 6
    obtain ⟨hf, hq0⟩ := xt_nw (kn := (5, 0)) (dv := fun j => defaultValue (jm_Y5 j)) hf hq9 6
    have kq : (jm_new h q (5, 0) (fun j => defaultValue (jm_Y5 j))).1 q = some (5, 0) := if_pos rfl
    refine jm_dup d_B_sendTable_12 rfl ?_
    refine jm_iconstL (v := 2) d_B_sendTable_13 (by decide) ?_
    refine jm_aload_n d_B_sendTable_14 rfl ?_
    refine cr_getG 71 a d_B_sendTable_15 f_B_294 hc (show a < sz 1 0 by omega) rfl rfl rfl (v := .int (nI a)) rfl ?_
    refine jm_aload_n d_B_sendTable_18 rfl ?_
    refine cr_get 16 a d_B_sendTable_19 f_B_239 hc (show a < sz 1 0 by omega) rfl rfl rfl (v := .int (C 16 a)) rfl ?_
    refine jm_aload_n d_B_sendTable_22 rfl ?_
    refine cr_get 23 a d_B_sendTable_23 f_B_327 hc (show a < sz 1 0 by omega) rfl rfl rfl (v := .int (C 23 a)) rfl ?_
    refine jm_aload_n d_B_sendTable_26 rfl ?_
    refine cr_t57 a d_B_sendTable_27 f_B_195 hc (show a < sz 1 0 by omega) (fun v9 hT9 => ?_)
    have hT8 := hT9
    rcases hT9 with ⟨hw9, -⟩ | ⟨r9, n9, rfl, -⟩
    · exact absurd hw9 h57
    have hT9 := hT8
    refine jm_callI (As := [_, _, _, _, _]) d_B_sendTable_30 rfl rfl rfl l_B_376 iw_L_init nv_L_init rfl (Nat.le_of_ble_eq_true rfl) (by omega : 1 + 1 ≤ _) (by omega) (by omega) (k_L_init (by omega) kq) (fun v h' hq' => ?_) (fun X h' hq' => by cases hq'.1)
    obtain ⟨e0, rfl⟩ := hq'
    cases e0
    obtain ⟨hc, hf, hL⟩ := co_lm hc hf rl_eq hq0 kq hT9
    refine jm_callV (r := ("BargainTree", jm_F0, 9)) (As := [_]) d_B_sendTable_33 l_B_379 iw_B_send ew_B_send rfl nv_B_send rfl (hc.1 1 0 rfl).1 (Nat.le_of_ble_eq_true rfl) (by omega : 0 + 1 ≤ _) (by omega) (by omega) (k_B_send hn hs h20 hc hL) (fun v h' hq' => ?_) (fun X h' hq' => by cases hq'.1)
    obtain ⟨e0, L', ρ', hk, hc', hf'⟩ := hq'
    cases e0
    have hf := hf.tr hf'
    exact jm_vret d_B_sendTable_36 rfl ⟨L', ρ', _, _, ⟨rfl, Or.inr ⟨hb5, hk, rfl, rfl⟩⟩, hc', hf⟩
end
