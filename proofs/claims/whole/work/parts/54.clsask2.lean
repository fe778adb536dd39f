/-! THE CLASS: pairs, roots, done, value, total. Written by wip/whole/gen/p54.py -/
section
variable {Γ : jm_G} {d x : Nat} {L sz : Nat → Nat → Nat} {C : mS} {h : jm_H} {ρ : Nat → Nat}
def lesI (x y : Int32) : Int32 := if x = -2 then y else if y = -2 then x else if x ≤ y then x else y
theorem k_B_lesser (hd : 1 ≤ d) (x y : Int32) : jm_A Γ m_B_lesser d [.int x, .int y] h (some (.int (lesI x y))) := by
  refine jm_entry (by decide +kernel) (List.forall_mem_cons.mpr ⟨rfl, List.forall_mem_cons.mpr ⟨rfl, fun _ h => nomatch h⟩⟩) (Nat.le_of_ble_eq_true rfl) ?_
  show jm_W _ _ _ _ _ _ 0 [some (.int x), some (.int y)] [] _
  refine jm_iload_n d_B_lesser_0 rfl ?_
  refine jm_bipushL (v := (-2)) d_B_lesser_1 (by decide) ?_
  refine jm_icmp_ne 8 d_B_lesser_3 (by decide) (fun hb3 => ?_) (fun hb3 => ?_)
  · refine jm_iload_n d_B_lesser_8 rfl ?_
    refine jm_bipushL (v := (-2)) d_B_lesser_9 (by decide) ?_
    refine jm_icmp_ne 18 d_B_lesser_11 (by decide) (fun hb11 => ?_) (fun hb11 => ?_)
    · refine jm_iload_n d_B_lesser_18 rfl ?_
      refine jm_iload_n d_B_lesser_19 rfl ?_
      refine jm_callSp (As := [_, _]) d_B_lesser_20 l_B_83 sw_J_min nv_J_min rfl (Nat.le_of_ble_eq_true rfl) (by omega : 0 + 1 ≤ _) (k_J_min _ _) ?_
      exact jm_iret d_B_lesser_23 rfl ⟨rfl, by first | rw [lesI, if_pos (Decidable.not_not.mp hb3)] | rw [lesI, if_neg hb3, if_pos (Decidable.not_not.mp hb11)] | rw [lesI, if_neg hb3, if_neg hb11]⟩
    · refine jm_iload_n d_B_lesser_14 rfl ?_
      refine jm_goto 23 d_B_lesser_15 (by decide) ?_
      exact jm_iret d_B_lesser_23 rfl ⟨rfl, by first | rw [lesI, if_pos (Decidable.not_not.mp hb3)] | rw [lesI, if_neg hb3, if_pos (Decidable.not_not.mp hb11)] | rw [lesI, if_neg hb3, if_neg hb11]⟩
  · refine jm_iload_n d_B_lesser_6 rfl ?_
    exact jm_iret d_B_lesser_7 rfl ⟨rfl, by first | rw [lesI, if_pos (Decidable.not_not.mp hb3)] | rw [lesI, if_neg hb3, if_pos (Decidable.not_not.mp hb11)] | rw [lesI, if_neg hb3, if_neg hb11]⟩
/-- the first pair from p on whose agents are a and b -/
def pfC (lo hi : Nat → Int32) (a b : Int32) : Nat → Nat → Int32
  | 0, _ => -1
  | k + 1, p => if lo p = (if a ≤ b then a else b) ∧ hi p = (if b ≤ a then a else b) then nI p else pfC lo hi a b k (p + 1)
abbrev pvC (L : Nat → Nat → Nat) (r : Int32) : Value := if r = -1 then .null else .ref (L 6 r.toNatClampNeg)
theorem pfC_ix {lo hi : Nat → Int32} {a b : Int32} : ∀ k p, pfC lo hi a b k p = -1 ∨ ∃ q, p ≤ q ∧ q < p + k ∧ pfC lo hi a b k p = nI q ∧ lo q = (if a ≤ b then a else b) ∧ hi q = (if b ≤ a then a else b)
  | 0, _ => Or.inl rfl
  | k + 1, p => by
    by_cases hq : lo p = (if a ≤ b then a else b) ∧ hi p = (if b ≤ a then a else b)
    · exact Or.inr ⟨p, by omega, by omega, if_pos hq, hq⟩
    · rw [show pfC lo hi a b (k + 1) p = pfC lo hi a b k (p + 1) from if_neg hq]
      rcases pfC_ix k (p + 1) with h | ⟨q, h1, h2, h3⟩
      · exact Or.inl h
      · exact Or.inr ⟨q, by omega, by omega, h3⟩
theorem lp_B_pairOf {rc rs np : Nat} {a b : Int32} (hd : 1 ≤ d) (hc : co Γ h x L ρ sz C) (hp : C 5 0 = nI np) (hs : sz 6 0 = np) (h12 : np ≤ 12) : ∀ j p, p + j = np → pfC (C 62) (C 63) a b np 0 = pfC (C 62) (C 63) a b j p → jm_W Γ m_B_pairOf d rc rs (fun oc h' => h' = h ∧ oc = .inl (some (pvC L (pfC (C 62) (C 63) a b np 0)))) 2 [some (.ref x), some (.int a), some (.int b), some (.int (nI p))] [] h := by
  intro j
  induction j with
  | zero =>
    intro p hpj he
    have hp' : p = np := by omega
    subst hp'
    refine jm_iload_n d_B_pairOf_2 rfl ?_
    refine jm_aload_n d_B_pairOf_3 rfl ?_
    refine cr_get 5 0 d_B_pairOf_4 f_B_74 hc rfl rfl rfl rfl (v := .int (C 5 0)) rfl ?_
    rw [hp]
    refine jm_icmp_ge 57 d_B_pairOf_7 (by decide) (fun hb7 => ?_) (fun hb7 => ?_)
    · refine jm_null d_B_pairOf_57 ?_
      exact jm_aret d_B_pairOf_58 rfl (by first | exact Or.inl ⟨_, rfl⟩ | exact Or.inr ⟨_, rfl⟩) (Or.inl rfl) ⟨rfl, by rw [he]; rfl⟩
    · exact absurd (nI_le (by omega) (by omega)) hb7
  | succ j ih =>
    intro p hpj he
    have hpn : p < np := by omega
    have en : pfC (C 62) (C 63) a b (j + 1) p = if C 62 p = (if a ≤ b then a else b) ∧ C 63 p = (if b ≤ a then a else b) then nI p else pfC (C 62) (C 63) a b j (p + 1) := rfl
    refine jm_iload_n d_B_pairOf_2 rfl ?_
    refine jm_aload_n d_B_pairOf_3 rfl ?_
    refine cr_get 5 0 d_B_pairOf_4 f_B_74 hc rfl rfl rfl rfl (v := .int (C 5 0)) rfl ?_
    rw [hp]
    refine jm_icmp_ge 57 d_B_pairOf_7 (by decide) (fun hb7 => ?_) (fun hb7 => ?_)
    · exact absurd hb7 (nI_ge (by omega) (by omega))
    · refine jm_aload_n d_B_pairOf_10 rfl ?_
      refine cr_get 79 0 d_B_pairOf_11 f_B_17 hc rfl rfl rfl rfl (v := .ref (L 0 1)) rfl ?_
      refine jm_iload_n d_B_pairOf_14 rfl ?_
      refine cr_ald 4 75 p (e := p) d_B_pairOf_15 (by decide) rfl hc (show p < sz 6 0 by omega) rfl rfl rfl rfl (by have := hc.B.2.1; omega) (by decide) (v := .ref (L 6 p)) rfl ?_
      refine cr_getG 62 p d_B_pairOf_16 f_B_248 hc (show p < sz 6 0 by omega) rfl rfl rfl (v := .int (C 62 p)) rfl ?_
      refine jm_iload_n d_B_pairOf_19 rfl ?_
      refine jm_iload_n d_B_pairOf_20 rfl ?_
      refine jm_callSp (As := [_, _]) d_B_pairOf_21 l_B_83 sw_J_min nv_J_min rfl (Nat.le_of_ble_eq_true rfl) (by omega : 0 + 1 ≤ _) (k_J_min _ _) ?_
      refine jm_icmp_ne 51 d_B_pairOf_24 (by decide) (fun hb24 => ?_) (fun hb24 => ?_)
      · refine jm_iincL (v := nI (p + 1)) d_B_pairOf_51 rfl (by rw [nI_succ]; rfl) ?_
        refine jm_goto 2 d_B_pairOf_54 (by decide) ?_
        exact ih (p + 1) (by omega) (by rw [he, en]; exact if_neg (fun q => by first | exact hb24 q.1 | exact hb41 q.2))
      · refine jm_aload_n d_B_pairOf_27 rfl ?_
        refine cr_get 79 0 d_B_pairOf_28 f_B_17 hc rfl rfl rfl rfl (v := .ref (L 0 1)) rfl ?_
        refine jm_iload_n d_B_pairOf_31 rfl ?_
        refine cr_ald 4 75 p (e := p) d_B_pairOf_32 (by decide) rfl hc (show p < sz 6 0 by omega) rfl rfl rfl rfl (by have := hc.B.2.1; omega) (by decide) (v := .ref (L 6 p)) rfl ?_
        refine cr_getG 63 p d_B_pairOf_33 f_B_251 hc (show p < sz 6 0 by omega) rfl rfl rfl (v := .int (C 63 p)) rfl ?_
        refine jm_iload_n d_B_pairOf_36 rfl ?_
        refine jm_iload_n d_B_pairOf_37 rfl ?_
        refine jm_callSp (As := [_, _]) d_B_pairOf_38 l_B_89 sw_J_max nv_J_max rfl (Nat.le_of_ble_eq_true rfl) (by omega : 0 + 1 ≤ _) (k_J_max _ _) ?_
        refine jm_icmp_ne 51 d_B_pairOf_41 (by decide) (fun hb41 => ?_) (fun hb41 => ?_)
        · refine jm_iincL (v := nI (p + 1)) d_B_pairOf_51 rfl (by rw [nI_succ]; rfl) ?_
          refine jm_goto 2 d_B_pairOf_54 (by decide) ?_
          exact ih (p + 1) (by omega) (by rw [he, en]; exact if_neg (fun q => by first | exact hb24 q.1 | exact hb41 q.2))
        · refine jm_aload_n d_B_pairOf_44 rfl ?_
          refine cr_get 79 0 d_B_pairOf_45 f_B_17 hc rfl rfl rfl rfl (v := .ref (L 0 1)) rfl ?_
          refine jm_iload_n d_B_pairOf_48 rfl ?_
          refine cr_ald 4 75 p (e := p) d_B_pairOf_49 (by decide) rfl hc (show p < sz 6 0 by omega) rfl rfl rfl rfl (by have := hc.B.2.1; omega) (by decide) (v := .ref (L 6 p)) rfl ?_
          exact jm_aret d_B_pairOf_50 rfl (by first | exact Or.inl ⟨_, rfl⟩ | exact Or.inr ⟨_, rfl⟩) (Or.inr ⟨_, rfl⟩) ⟨rfl, by rw [he, en, if_pos (And.intro (Decidable.not_not.mp hb24) (Decidable.not_not.mp hb41)), pvC, if_neg (nI_m1 (by omega)), nI_clamp (by omega)]⟩
theorem k_B_pairOf {np : Nat} (hd : 1 ≤ d) (hp : C 5 0 = nI np) (hs : sz 6 0 = np) (h12 : np ≤ 12) (a b : Int32) : cA0 Γ m_B_pairOf d x [.ref x, .int a, .int b] L sz C (some (pvC L (pfC (C 62) (C 63) a b np 0))) := by
  intro h ρ hc
  refine jm_entry (by decide +kernel) (List.forall_mem_cons.mpr ⟨rfl, List.forall_mem_cons.mpr ⟨rfl, List.forall_mem_cons.mpr ⟨rfl, fun _ h => nomatch h⟩⟩⟩) (Nat.le_of_ble_eq_true rfl) ?_
  show jm_W _ _ _ _ _ _ 0 [some (.ref x), some (.int a), some (.int b), none] [] _
  refine jm_iconstL (v := nI 0) d_B_pairOf_0 (by decide) ?_
  refine jm_istore_n d_B_pairOf_1 (Nat.le_of_ble_eq_true rfl) ?_
  exact lp_B_pairOf hd hc hp hs h12 np 0 (by omega) rfl
abbrev pwC (C : mS) (np : Nat) (a b v w : Int32) : Int32 := if isVaC C a v ∧ isVaC C b w then pfC (C 62) (C 63) a b np 0 else -1
theorem k_B_pairWith {n np : Nat} (hd : 2 ≤ d) (hn : C 1 0 = nI n) (hs8 : sz 1 0 = n) (h8 : n ≤ 8) (hp : C 5 0 = nI np) (hs : sz 6 0 = np) (h12 : np ≤ 12) (a b v w : Int32) : cA0 Γ m_B_pairWith d x [.ref x, .int a, .int b, .int v, .int w] L sz C (some (pvC L (pwC C np a b v w))) := by
  intro h ρ hc
  refine jm_entry (by decide +kernel) (List.forall_mem_cons.mpr ⟨rfl, List.forall_mem_cons.mpr ⟨rfl, List.forall_mem_cons.mpr ⟨rfl, List.forall_mem_cons.mpr ⟨rfl, List.forall_mem_cons.mpr ⟨rfl, fun _ h => nomatch h⟩⟩⟩⟩⟩) (Nat.le_of_ble_eq_true rfl) ?_
  show jm_W _ _ _ _ _ _ 0 [some (.ref x), some (.int a), some (.int b), some (.int v), some (.int w)] [] _
  refine jm_aload_n d_B_pairWith_0 rfl ?_
  refine jm_iload_n d_B_pairWith_1 rfl ?_
  refine jm_iload_n d_B_pairWith_2 rfl ?_
  refine cr_callp (r := ("BargainTree", jm_F0, 9)) (As := [_, _]) d_B_pairWith_3 l_B_54 iw_B_isValue ew_B_isValue rfl nv_B_isValue rfl (hc.1 1 0 rfl).1 (Nat.le_of_ble_eq_true rfl) (by omega : 1 + 1 ≤ _) (k_B_isValue (by omega) hn hs8 h8 _ _) hc ?_
  first | refine jm_bz_eq 28 d_B_pairWith_6 (by decide) (fun hb6 => ?_) (fun hb6 => ?_) | refine jm_if_eq 28 d_B_pairWith_6 (by decide) (fun hb6 => ?_) (fun hb6 => ?_)
  · refine jm_null d_B_pairWith_28 ?_
    exact jm_aret d_B_pairWith_29 rfl (Or.inl ⟨_, rfl⟩) (Or.inl rfl) ⟨rfl, by rw [show pwC C np a b v w = -1 from if_neg (fun q => hb6 q.1)]; rfl⟩
  · refine jm_aload_n d_B_pairWith_9 rfl ?_
    refine jm_iload_n d_B_pairWith_10 rfl ?_
    refine jm_iload d_B_pairWith_11 rfl ?_
    refine cr_callp (r := ("BargainTree", jm_F0, 9)) (As := [_, _]) d_B_pairWith_13 l_B_54 iw_B_isValue ew_B_isValue rfl nv_B_isValue rfl (hc.1 1 0 rfl).1 (Nat.le_of_ble_eq_true rfl) (by omega : 1 + 1 ≤ _) (k_B_isValue (by omega) hn hs8 h8 _ _) hc ?_
    first | refine jm_bz_eq 28 d_B_pairWith_16 (by decide) (fun hb16 => ?_) (fun hb16 => ?_) | refine jm_if_eq 28 d_B_pairWith_16 (by decide) (fun hb16 => ?_) (fun hb16 => ?_)
    · refine jm_null d_B_pairWith_28 ?_
      exact jm_aret d_B_pairWith_29 rfl (Or.inl ⟨_, rfl⟩) (Or.inl rfl) ⟨rfl, by rw [show pwC C np a b v w = -1 from if_neg (fun q => hb16 q.2)]; rfl⟩
    · refine jm_aload_n d_B_pairWith_19 rfl ?_
      refine jm_iload_n d_B_pairWith_20 rfl ?_
      refine jm_iload_n d_B_pairWith_21 rfl ?_
      refine cr_callp (r := ("BargainTree", jm_F0, 9)) (As := [_, _]) d_B_pairWith_22 l_B_77 iw_B_pairOf ew_B_pairOf rfl nv_B_pairOf rfl (hc.1 1 0 rfl).1 (Nat.le_of_ble_eq_true rfl) (by omega : 1 + 1 ≤ _) (k_B_pairOf (by omega) hp hs h12 a b) hc ?_
      refine jm_goto 29 d_B_pairWith_25 (by decide) ?_
      refine jm_aret d_B_pairWith_29 rfl (Or.inl ⟨_, rfl⟩) ?_ ⟨rfl, by rw [show pwC C np a b v w = _ from if_pos ⟨hb6, hb16⟩]⟩
      show pvC L _ = .null ∨ _
      unfold pvC
      split
      · exact Or.inl rfl
      · exact Or.inr ⟨_, rfl⟩
theorem ag_inj (hc : co Γ h x L ρ sz C) {a b : Nat} (ha : a < sz 1 0) (hb : b < sz 1 0) (e : L 1 a = L 1 b) : a = b := by
  have q1 : ρ (L 1 a) = 10 + a := (hc.1 3 a ha).2.1
  have q2 : ρ (L 1 b) = 10 + b := (hc.1 3 b hb).2.1
  rw [e, q2] at q1
  omega
/-- the part of an agent: none, or part p with root r -/
abbrev ptC (sz : Nat → Nat → Nat) (C : mS) (a : Nat) : Prop := ∃ p r, C 10 a = nI p ∧ p < 8 ∧ sz 5 p = 1 ∧ C 11 p = nI r ∧ r < sz 1 0
abbrev rootC (C : mS) (a : Nat) : Prop := C 10 a ≠ -1 ∧ C 11 (C 10 a).toNatClampNeg = nI a
abbrev setC (C : mS) (a : Nat) : Prop := C 59 a ≠ -1 ∧ C 10 a ≠ -1 ∧ C 28 a = C 12 (C 10 a).toNatClampNeg
abbrev lostC (C : mS) (a : Nat) : Prop := C 65 (C 10 a).toNatClampNeg = C 12 (C 10 a).toNatClampNeg
theorem k_A_isRoot {a : Nat} (ha : a < sz 1 0) (hp : C 10 a = -1 ∨ ptC sz C a) : cA0 Γ m_A_isRoot d x [.ref (L 1 a)] L sz C (some (.int (if rootC C a then 1 else 0))) := by
  intro h ρ hc
  refine jm_entry (by decide +kernel) (List.forall_mem_cons.mpr ⟨rfl, fun _ h => nomatch h⟩) (Nat.le_of_ble_eq_true rfl) ?_
  show jm_W _ _ _ _ _ _ 0 [some (.ref (L 1 a))] [] _
  have h8 := hc.B.1
  rcases hp with hp | ⟨p, r, hp1, hp2, hp3, hp4, hp5⟩
  · refine jm_aload_n d_A_isRoot_0 rfl ?_
    refine cr_get 10 a d_A_isRoot_1 f_A_43 hc (show a < sz 1 0 by omega) rfl rfl rfl (v := .null) (cE_nopart hp) ?_
    refine jm_ifnullN 22 d_A_isRoot_4 (by decide) ?_
    refine jm_iconstL (v := 0) d_A_isRoot_22 (by decide) ?_
    exact jm_zret d_A_isRoot_23 rfl rfl ⟨rfl, by rw [if_neg (fun q : rootC C a => q.1 hp)]⟩
  have ep : (C 10 a).toNatClampNeg = p := by rw [hp1, nI_clamp (by omega)]
  refine jm_aload_n d_A_isRoot_0 rfl ?_
  refine cr_get 10 a d_A_isRoot_1 f_A_43 hc (show a < sz 1 0 by omega) rfl rfl rfl (v := .ref (L 5 p)) (cE_part hp1 hp2) ?_
  refine jm_ifnull d_A_isRoot_4 ?_
  refine jm_aload_n d_A_isRoot_7 rfl ?_
  refine cr_get 10 a d_A_isRoot_8 f_A_43 hc (show a < sz 1 0 by omega) rfl rfl rfl (v := .ref (L 5 p)) (cE_part hp1 hp2) ?_
  refine cr_getG 11 p d_A_isRoot_11 f_A_47 hc (show p < 8 ∧ sz 5 p = 1 from ⟨by omega, hp3⟩) rfl rfl rfl (v := .ref (L 1 r)) (cE_11 hp4 (by omega)) ?_
  refine jm_aload_n d_A_isRoot_14 rfl ?_
  refine jm_acmp_ne 22 d_A_isRoot_15 (by decide) (fun hb15 => ?_) (fun hb15 => ?_)
  · refine jm_iconstL (v := 0) d_A_isRoot_22 (by decide) ?_
    exact jm_zret d_A_isRoot_23 rfl rfl ⟨rfl, by rw [if_neg (fun q : rootC C a => hb15 (by have q2 := q.2; rw [ep, hp4] at q2; rw [(nI_eq (by omega) (by omega)).mp q2]))]⟩
  · refine jm_iconstL (v := 1) d_A_isRoot_18 (by decide) ?_
    refine jm_goto 23 d_A_isRoot_19 (by decide) ?_
    exact jm_zret d_A_isRoot_23 rfl rfl ⟨rfl, by rw [if_pos (show rootC C a from ⟨by rw [hp1]; exact nI_m1 (by omega), by rw [ep, hp4, ag_inj hc hp5 ha (Decidable.not_not.mp hb15)]⟩)]⟩
theorem k_A_isSettled {a : Nat} (ha : a < sz 1 0) (hp : C 10 a = -1 ∨ ptC sz C a) : cA0 Γ m_A_isSettled d x [.ref (L 1 a)] L sz C (some (.int (if setC C a then 1 else 0))) := by
  intro h ρ hc
  refine jm_entry (by decide +kernel) (List.forall_mem_cons.mpr ⟨rfl, fun _ h => nomatch h⟩) (Nat.le_of_ble_eq_true rfl) ?_
  show jm_W _ _ _ _ _ _ 0 [some (.ref (L 1 a))] [] _
  have h8 := hc.B.1
  refine jm_aload_n d_A_isSettled_0 rfl ?_
  refine cr_t59 a d_A_isSettled_1 f_A_53 hc ha (fun v9 hT9 => ?_)
  rcases hT9 with ⟨hw, rfl⟩ | ⟨q, w, rfl, hw, hw2, -, -, -⟩
  · refine jm_ifnullN 32 d_A_isSettled_4 (by decide) ?_
    refine jm_iconstL (v := 0) d_A_isSettled_32 (by decide) ?_
    exact jm_zret d_A_isSettled_33 rfl rfl ⟨rfl, by rw [if_neg (fun q : setC C a => q.1 hw)]⟩
  have hw' : C 59 a ≠ -1 := by rw [hw]; exact nI_m1 (by omega)
  refine jm_ifnull d_A_isSettled_4 ?_
  rcases hp with hp | ⟨p, r, hp1, hp2, hp3, hp4, hp5⟩
  · refine jm_aload_n d_A_isSettled_7 rfl ?_
    refine cr_get 10 a d_A_isSettled_8 f_A_43 hc (show a < sz 1 0 by omega) rfl rfl rfl (v := .null) (cE_nopart hp) ?_
    refine jm_ifnullN 32 d_A_isSettled_11 (by decide) ?_
    refine jm_iconstL (v := 0) d_A_isSettled_32 (by decide) ?_
    exact jm_zret d_A_isSettled_33 rfl rfl ⟨rfl, by rw [if_neg (fun q : setC C a => q.2.1 hp)]⟩
  have ep : (C 10 a).toNatClampNeg = p := by rw [hp1, nI_clamp (by omega)]
  refine jm_aload_n d_A_isSettled_7 rfl ?_
  refine cr_get 10 a d_A_isSettled_8 f_A_43 hc (show a < sz 1 0 by omega) rfl rfl rfl (v := .ref (L 5 p)) (cE_part hp1 hp2) ?_
  refine jm_ifnull d_A_isSettled_11 ?_
  refine jm_aload_n d_A_isSettled_14 rfl ?_
  refine cr_get 28 a d_A_isSettled_15 f_A_56 hc (show a < sz 1 0 by omega) rfl rfl rfl (v := .int (C 28 a)) rfl ?_
  refine jm_aload_n d_A_isSettled_18 rfl ?_
  refine cr_get 10 a d_A_isSettled_19 f_A_43 hc (show a < sz 1 0 by omega) rfl rfl rfl (v := .ref (L 5 p)) (cE_part hp1 hp2) ?_
  refine cr_get 12 p d_A_isSettled_22 f_A_59 hc (show p < 8 ∧ sz 5 p = 1 from ⟨by omega, hp3⟩) rfl rfl rfl (v := .int (C 12 p)) rfl ?_
  refine jm_icmp_ne 32 d_A_isSettled_25 (by decide) (fun hb25 => ?_) (fun hb25 => ?_)
  · refine jm_iconstL (v := 0) d_A_isSettled_32 (by decide) ?_
    exact jm_zret d_A_isSettled_33 rfl rfl ⟨rfl, by rw [if_neg (fun q : setC C a => hb25 (by have q2 := q.2.2; rw [ep] at q2; exact q2))]⟩
  · refine jm_iconstL (v := 1) d_A_isSettled_28 (by decide) ?_
    refine jm_goto 33 d_A_isSettled_29 (by decide) ?_
    exact jm_zret d_A_isSettled_33 rfl rfl ⟨rfl, by rw [if_pos (show setC C a from ⟨hw', by rw [hp1]; exact nI_m1 (by omega), by rw [ep]; exact Decidable.not_not.mp hb25⟩)]⟩
theorem k_B_entries {n : Nat} (hd : 1 ≤ d) (hn : C 1 0 = nI n) (hs : sz 1 0 = n) (h8 : n ≤ 8) (a : Int32) : cA0 Γ m_B_entries d x [.ref x, .int a] L sz C (some (.int (if isAgC C a then C 57 a.toNatClampNeg else -1))) := by
  intro h ρ hc
  refine jm_entry (by decide +kernel) (List.forall_mem_cons.mpr ⟨rfl, List.forall_mem_cons.mpr ⟨rfl, fun _ h => nomatch h⟩⟩) (Nat.le_of_ble_eq_true rfl) ?_
  show jm_W _ _ _ _ _ _ 0 [some (.ref x), some (.int a)] [] _
  refine jm_aload_n d_B_entries_0 rfl ?_
  refine jm_iload_n d_B_entries_1 rfl ?_
  refine cr_callp (r := ("BargainTree", jm_F0, 9)) (As := [_]) d_B_entries_2 l_B_69 iw_B_isAgent ew_B_isAgent rfl nv_B_isAgent rfl (hc.1 1 0 rfl).1 (Nat.le_of_ble_eq_true rfl) (by omega : 0 + 1 ≤ _) (k_B_isAgent _) hc ?_
  first | refine jm_bz_eq 33 d_B_entries_5 (by decide) (fun hb5 => ?_) (fun hb5 => ?_) | refine jm_if_eq 33 d_B_entries_5 (by decide) (fun hb5 => ?_) (fun hb5 => ?_)
  · refine jm_iconstL (v := -1) d_B_entries_33 (by decide) ?_
    exact jm_iret d_B_entries_34 rfl ⟨rfl, by rw [if_neg hb5]⟩
  · have hb := hb5
    obtain ⟨k, hk, rfl⟩ := agC_ix hn h8 hb5
    have ec := nI_clamp (show k < 2 ^ 31 by omega)
    refine jm_aload_n d_B_entries_8 rfl ?_
    refine cr_get 78 0 d_B_entries_9 f_B_11 hc rfl rfl rfl rfl (v := .ref (L 0 0)) rfl ?_
    refine jm_iload_n d_B_entries_12 rfl ?_
    refine cr_ald 3 70 k (e := k) d_B_entries_13 (by decide) rfl hc (show k < sz 1 0 by omega) rfl rfl rfl rfl (by have := hc.B.1; omega) (by decide) (v := .ref (L 1 k)) rfl ?_
    refine cr_t57 k d_B_entries_14 f_B_195 hc (by omega) (fun v9 hT9 => ?_)
    rcases hT9 with ⟨hw, rfl⟩ | ⟨q, w, rfl, hw, hw2, -, -, -⟩
    · refine jm_ifnullN 33 d_B_entries_17 (by decide) ?_
      refine jm_iconstL (v := -1) d_B_entries_33 (by decide) ?_
      exact jm_iret d_B_entries_34 rfl ⟨rfl, by rw [if_pos hb, ec, hw]⟩
    refine jm_ifnull d_B_entries_17 ?_
    refine jm_aload_n d_B_entries_20 rfl ?_
    refine cr_get 78 0 d_B_entries_21 f_B_11 hc rfl rfl rfl rfl (v := .ref (L 0 0)) rfl ?_
    refine jm_iload_n d_B_entries_24 rfl ?_
    refine cr_ald 3 70 k (e := k) d_B_entries_25 (by decide) rfl hc (show k < sz 1 0 by omega) rfl rfl rfl rfl (by have := hc.B.1; omega) (by decide) (v := .ref (L 1 k)) rfl ?_
    refine cr_t57 k d_B_entries_26 f_B_195 hc (show k < sz 1 0 by omega) (fun v9 hT9 => ?_)
    obtain ⟨q2, rfl, hR⟩ := hT9.is hw hw2
    refine cr_rlen d_B_entries_29 hR ?_
    refine jm_goto 34 d_B_entries_30 (by decide) ?_
    exact jm_iret d_B_entries_34 rfl ⟨rfl, by rw [if_pos hb, ec, hw]⟩
theorem k_B_separator {n : Nat} (hd : 1 ≤ d) (hn : C 1 0 = nI n) (hs : sz 1 0 = n) (h8 : n ≤ 8) (hE : ∀ i j, i < 3 → j < 3 → jm_eA Γ i = jm_eA Γ j → i = j) (hst : ∀ k, k < n → ∃ s, s < 3 ∧ C 50 k = nI s) (a : Int32) : cA0 Γ m_B_separator d x [.ref x, .int a] L sz C (some (.int (if isAgC C a ∧ C 50 a.toNatClampNeg = 2 then C 22 a.toNatClampNeg else -1))) := by
  intro h ρ hc
  refine jm_entry (by decide +kernel) (List.forall_mem_cons.mpr ⟨rfl, List.forall_mem_cons.mpr ⟨rfl, fun _ h => nomatch h⟩⟩) (Nat.le_of_ble_eq_true rfl) ?_
  show jm_W _ _ _ _ _ _ 0 [some (.ref x), some (.int a)] [] _
  refine jm_aload_n d_B_separator_0 rfl ?_
  refine jm_iload_n d_B_separator_1 rfl ?_
  refine cr_callp (r := ("BargainTree", jm_F0, 9)) (As := [_]) d_B_separator_2 l_B_69 iw_B_isAgent ew_B_isAgent rfl nv_B_isAgent rfl (hc.1 1 0 rfl).1 (Nat.le_of_ble_eq_true rfl) (by omega : 0 + 1 ≤ _) (k_B_isAgent _) hc ?_
  first | refine jm_bz_eq 35 d_B_separator_5 (by decide) (fun hb5 => ?_) (fun hb5 => ?_) | refine jm_if_eq 35 d_B_separator_5 (by decide) (fun hb5 => ?_) (fun hb5 => ?_)
  · refine jm_iconstL (v := -1) d_B_separator_35 (by decide) ?_
    exact jm_iret d_B_separator_36 rfl ⟨rfl, by rw [if_neg (fun q => hb5 q.1)]⟩
  · have hb := hb5
    obtain ⟨k, hk, rfl⟩ := agC_ix hn h8 hb5
    have ec := nI_clamp (show k < 2 ^ 31 by omega)
    obtain ⟨s, hs3, hs4⟩ := hst k hk
    refine jm_aload_n d_B_separator_8 rfl ?_
    refine cr_get 78 0 d_B_separator_9 f_B_11 hc rfl rfl rfl rfl (v := .ref (L 0 0)) rfl ?_
    refine jm_iload_n d_B_separator_12 rfl ?_
    refine cr_ald 3 70 k (e := k) d_B_separator_13 (by decide) rfl hc (show k < sz 1 0 by omega) rfl rfl rfl rfl (by have := hc.B.1; omega) (by decide) (v := .ref (L 1 k)) rfl ?_
    refine cr_get 50 k d_B_separator_14 f_B_176 hc (show k < sz 1 0 by omega) rfl rfl rfl (v := .ref (jm_eA Γ s)) (cE_stage hs4 hs3) ?_
    refine jm_getE d_B_separator_17 (by decide) f_B_189 ?_
    refine jm_acmp_ne 35 d_B_separator_20 (by decide) (fun hb20 => ?_) (fun hb20 => ?_)
    · refine jm_iconstL (v := -1) d_B_separator_35 (by decide) ?_
      exact jm_iret d_B_separator_36 rfl ⟨rfl, by rw [ec, if_neg (fun q : isAgC C (nI k) ∧ C 50 k = 2 => hb20 (by rw [(nI_eq (b := 2) (by omega) (by decide)).mp (hs4.symm.trans q.2)]))]⟩
    · refine jm_aload_n d_B_separator_23 rfl ?_
      refine cr_get 78 0 d_B_separator_24 f_B_11 hc rfl rfl rfl rfl (v := .ref (L 0 0)) rfl ?_
      refine jm_iload_n d_B_separator_27 rfl ?_
      refine cr_ald 3 70 k (e := k) d_B_separator_28 (by decide) rfl hc (show k < sz 1 0 by omega) rfl rfl rfl rfl (by have := hc.B.1; omega) (by decide) (v := .ref (L 1 k)) rfl ?_
      refine cr_get 22 k d_B_separator_29 f_B_242 hc (show k < sz 1 0 by omega) rfl rfl rfl (v := .int (C 22 k)) rfl ?_
      refine jm_goto 36 d_B_separator_32 (by decide) ?_
      exact jm_iret d_B_separator_36 rfl ⟨rfl, by rw [ec, if_pos (show isAgC C (nI k) ∧ C 50 k = 2 from ⟨hb, by rw [hs4, hE s 2 hs3 (by decide) (Decidable.not_not.mp hb20)]; rfl⟩)]⟩
theorem k_B_value {n : Nat} (hd : 1 ≤ d) (hn : C 1 0 = nI n) (hs : sz 1 0 = n) (h8 : n ≤ 8) (hpt : ∀ k, k < n → C 10 k = -1 ∨ ptC sz C k) (h59 : ∀ k, k < n → C 59 k = -1 ∨ C 59 k = 8) (a : Int32) : cA0 Γ m_B_value d x [.ref x, .int a] L sz C (some (.int (if isAgC C a ∧ setC C a.toNatClampNeg then C 66 (256 * a.toNatClampNeg + a.toNatClampNeg) else -1))) := by
  intro h ρ hc
  refine jm_entry (by decide +kernel) (List.forall_mem_cons.mpr ⟨rfl, List.forall_mem_cons.mpr ⟨rfl, fun _ h => nomatch h⟩⟩) (Nat.le_of_ble_eq_true rfl) ?_
  show jm_W _ _ _ _ _ _ 0 [some (.ref x), some (.int a)] [] _
  refine jm_aload_n d_B_value_0 rfl ?_
  refine jm_iload_n d_B_value_1 rfl ?_
  refine cr_callp (r := ("BargainTree", jm_F0, 9)) (As := [_]) d_B_value_2 l_B_69 iw_B_isAgent ew_B_isAgent rfl nv_B_isAgent rfl (hc.1 1 0 rfl).1 (Nat.le_of_ble_eq_true rfl) (by omega : 0 + 1 ≤ _) (k_B_isAgent _) hc ?_
  first | refine jm_bz_eq 34 d_B_value_5 (by decide) (fun hb5 => ?_) (fun hb5 => ?_) | refine jm_if_eq 34 d_B_value_5 (by decide) (fun hb5 => ?_) (fun hb5 => ?_)
  · refine jm_iconstL (v := -1) d_B_value_34 (by decide) ?_
    exact jm_iret d_B_value_35 rfl ⟨rfl, by rw [if_neg (fun q => hb5 q.1)]⟩
  · have hb := hb5
    obtain ⟨k, hk, rfl⟩ := agC_ix hn h8 hb5
    have ec := nI_clamp (show k < 2 ^ 31 by omega)
    refine jm_aload_n d_B_value_8 rfl ?_
    refine cr_get 78 0 d_B_value_9 f_B_11 hc rfl rfl rfl rfl (v := .ref (L 0 0)) rfl ?_
    refine jm_iload_n d_B_value_12 rfl ?_
    refine cr_ald 3 70 k (e := k) d_B_value_13 (by decide) rfl hc (show k < sz 1 0 by omega) rfl rfl rfl rfl (by have := hc.B.1; omega) (by decide) (v := .ref (L 1 k)) rfl ?_
    refine cr_callp (r := ("BargainTree$Agent", jm_F1, 18)) (As := []) d_B_value_14 l_B_236 iw_A_isSettled ew_A_isSettled rfl nv_A_isSettled rfl (hc.1 3 k (show k < sz 1 0 by omega)).1 (Nat.le_of_ble_eq_true rfl) (by omega : 0 + 1 ≤ _) (k_A_isSettled (a := k) (by omega) (hpt k hk)) hc ?_
    first | refine jm_bz_eq 34 d_B_value_17 (by decide) (fun hb17 => ?_) (fun hb17 => ?_) | refine jm_if_eq 34 d_B_value_17 (by decide) (fun hb17 => ?_) (fun hb17 => ?_)
    · refine jm_iconstL (v := -1) d_B_value_34 (by decide) ?_
      exact jm_iret d_B_value_35 rfl ⟨rfl, by rw [ec, if_neg (fun q : isAgC C (nI k) ∧ setC C k => hb17 q.2)]⟩
    · refine jm_aload_n d_B_value_20 rfl ?_
      refine cr_get 78 0 d_B_value_21 f_B_11 hc rfl rfl rfl rfl (v := .ref (L 0 0)) rfl ?_
      refine jm_iload_n d_B_value_24 rfl ?_
      refine cr_ald 3 70 k (e := k) d_B_value_25 (by decide) rfl hc (show k < sz 1 0 by omega) rfl rfl rfl rfl (by have := hc.B.1; omega) (by decide) (v := .ref (L 1 k)) rfl ?_
      refine cr_t59 k d_B_value_26 f_B_201 hc (show k < sz 1 0 by omega) (fun v9 hT9 => ?_)
      obtain ⟨q2, rfl, hR⟩ := hT9.is (n := 8) ((h59 k hk).resolve_left hb17.1) (by decide)
      refine jm_iload_n d_B_value_29 rfl ?_
      refine cr_rld d_B_value_30 hR rfl (by omega) ?_
      refine jm_goto 35 d_B_value_31 (by decide) ?_
      exact jm_iret d_B_value_35 rfl ⟨rfl, by rw [ec, if_pos (show isAgC C (nI k) ∧ setC C k from ⟨hb, hb17⟩)]⟩
abbrev wideC (C : mS) (k : Nat) : Bool := decide (C 15 k ≠ 0)
abbrev lostCB (C : mS) (k : Nat) : Bool := decide (lostC C k)
abbrev openC (C : mS) (k : Nat) : Bool := decide (¬ (lostC C k ∨ setC C k))
def stC (C : mS) (n : Nat) : Int32 := if C 60 0 ≠ 0 then 0 else if anyB (wideC C) n = true then 3 else if anyB (openC C) n = true then 0 else if anyB (lostCB C) n = true then 2 else 1
theorem anyB_mono {f : Nat → Bool} {k : Nat} (h : f k = true) : ∀ n, k < n → anyB f n = true
  | 0, h0 => absurd h0 (by omega)
  | n + 1, h0 => by
    simp only [anyB]
    by_cases e : k = n
    · rw [← e, h, Bool.or_true]
    · rw [anyB_mono h n (by omega), Bool.true_or]
theorem bzO1 {b : Bool} {p : Prop} [Decidable p] (h : b = true) : bz (b || decide p) = 1 := by rw [h, Bool.true_or]; rfl
theorem bzO2 {b : Bool} {p : Prop} [Decidable p] (h : p) : bz (b || decide p) = 1 := by rw [decide_eq_true h, Bool.or_true]; rfl
theorem bzO0 {b : Bool} {p : Prop} [Decidable p] (h1 : ¬ b = true) (h : ¬ p) : bz (b || decide p) = 0 := by rw [Bool.eq_false_iff.mpr h1, decide_eq_false h]; rfl
theorem bzN0 {b : Bool} {p : Prop} [Decidable p] (h : ¬ (!b) = true) : bz (!(b || decide p)) = 0 := by cases b <;> simp_all [bz]
theorem bzN1 {b : Bool} {p q : Prop} [Decidable p] [Decidable q] (h : (!b) = true) (h1 : p) : bz (!(b || decide (¬ (p ∨ q)))) = 1 := by cases b <;> simp_all [bz]
theorem bzN2 {b : Bool} {p q : Prop} [Decidable p] [Decidable q] (h : (!b) = true) (h1 : q) : bz (!(b || decide (¬ (p ∨ q)))) = 1 := by cases b <;> simp_all [bz]
theorem bzN3 {b : Bool} {p q : Prop} [Decidable p] [Decidable q] (h : (!b) = true) (h1 : ¬ p) (h2 : ¬ q) : bz (!(b || decide (¬ (p ∨ q)))) = 0 := by cases b <;> simp_all [bz]
theorem lp_B_done {rc rs n : Nat} (hd : 1 ≤ d) (hc : co Γ h x L ρ sz C) (hn : C 1 0 = nI n) (hs : sz 1 0 = n) (h8 : n ≤ 8) (ho : C 60 0 = 0) (hpt : ∀ k, k < n → ptC sz C k) : ∀ j k, k + j = n → anyB (wideC C) k = false → ∀ x4, jm_W Γ m_B_done d rc rs (fun oc h' => h' = h ∧ oc = .inl (some (.int (stC C n)))) 15 [some (.ref x), some (.int (bz (!anyB (openC C) k))), some (.int (bz (anyB (lostCB C) k))), some (.int (nI k)), x4] [] h := by
  intro j
  induction j with
  | zero =>
    intro k hk hw x4
    have hk' : k = n := by omega
    subst hk'
    have e0 : ¬ C 60 0 ≠ 0 := fun q => q ho
    have e1 : ¬ anyB (wideC C) k = true := by rw [hw]; exact Bool.false_ne_true
    refine jm_iload_n d_B_done_15 rfl ?_
    refine jm_aload_n d_B_done_16 rfl ?_
    refine cr_get 1 0 d_B_done_17 f_B_42 hc rfl rfl rfl rfl (v := .int (C 1 0)) rfl ?_
    rw [hn]
    refine jm_icmp_ge 99 d_B_done_20 (by decide) (fun hb20 => ?_) (fun hb20 => ?_)
    · refine jm_iload_n d_B_done_99 rfl ?_
      first | refine jm_bz_ne 105 d_B_done_100 (by decide) (fun hb100 => ?_) (fun hb100 => ?_) | refine jm_if_ne 105 d_B_done_100 (by decide) (fun hb100 => ?_) (fun hb100 => ?_)
      · refine jm_iload_n d_B_done_105 rfl ?_
        first | refine jm_bz_eq 113 d_B_done_106 (by decide) (fun hb106 => ?_) (fun hb106 => ?_) | refine jm_if_eq 113 d_B_done_106 (by decide) (fun hb106 => ?_) (fun hb106 => ?_)
        · refine jm_iconstL (v := nI 1) d_B_done_113 (by decide) ?_
          exact jm_iret d_B_done_114 rfl ⟨rfl, by rw [stC, if_neg e0, if_neg e1, if_neg (by revert hb100; cases anyB (openC C) k <;> simp)]; first | rw [if_pos hb106]; rfl | rw [if_neg hb106]; rfl⟩
        · refine jm_iconstL (v := nI 2) d_B_done_109 (by decide) ?_
          refine jm_goto 114 d_B_done_110 (by decide) ?_
          exact jm_iret d_B_done_114 rfl ⟨rfl, by rw [stC, if_neg e0, if_neg e1, if_neg (by revert hb100; cases anyB (openC C) k <;> simp)]; first | rw [if_pos hb106]; rfl | rw [if_neg hb106]; rfl⟩
      · refine jm_iconstL (v := nI 0) d_B_done_103 (by decide) ?_
        exact jm_iret d_B_done_104 rfl ⟨rfl, by rw [stC, if_neg e0, if_neg e1, if_pos (by revert hb100; cases anyB (openC C) k <;> simp)]; rfl⟩
    · exact absurd (nI_le (by omega) (by omega)) hb20
  | succ j ih =>
    intro k hk hw x4
    have hkn : k < n := by omega
    obtain ⟨p, r, hp1, hp2, hp3, hp4, hp5⟩ := hpt k hkn
    have ep : (C 10 k).toNatClampNeg = p := by rw [hp1, nI_clamp (by omega)]
    have el : (if C 65 p = C 12 p then (1 : Int32) else 0) = (if lostC C k then 1 else 0) := by simp only [lostC, ep]
    have e0 : ¬ C 60 0 ≠ 0 := fun q => q ho
    refine jm_iload_n d_B_done_15 rfl ?_
    refine jm_aload_n d_B_done_16 rfl ?_
    refine cr_get 1 0 d_B_done_17 f_B_42 hc rfl rfl rfl rfl (v := .int (C 1 0)) rfl ?_
    rw [hn]
    refine jm_icmp_ge 99 d_B_done_20 (by decide) (fun hb20 => ?_) (fun hb20 => ?_)
    · exact absurd hb20 (nI_ge (by omega) (by omega))
    · refine jm_aload_n d_B_done_23 rfl ?_
      refine cr_get 78 0 d_B_done_24 f_B_11 hc rfl rfl rfl rfl (v := .ref (L 0 0)) rfl ?_
      refine jm_iload_n d_B_done_27 rfl ?_
      refine cr_ald 3 70 k (e := k) d_B_done_28 (by decide) rfl hc (show k < sz 1 0 by omega) rfl rfl rfl rfl (by have := hc.B.1; omega) (by decide) (v := .ref (L 1 k)) rfl ?_
      refine cr_get 15 k d_B_done_29 f_B_230 hc (show k < sz 1 0 by omega) rfl rfl rfl (v := .int (C 15 k)) rfl ?_
      first | refine jm_bz_eq 37 d_B_done_32 (by decide) (fun hb32 => ?_) (fun hb32 => ?_) | refine jm_if_eq 37 d_B_done_32 (by decide) (fun hb32 => ?_) (fun hb32 => ?_)
      · have hw1 : anyB (wideC C) (k + 1) = false := by
          show (anyB (wideC C) k || decide (C 15 k ≠ 0)) = false
          rw [hw, decide_eq_false (fun q => q hb32)]; rfl
        have e9 := ih (k + 1) (by omega) hw1
        have el2 : anyB (lostCB C) (k + 1) = (anyB (lostCB C) k || decide (lostC C k)) := rfl
        have eo2 : anyB (openC C) (k + 1) = (anyB (openC C) k || decide (¬ (lostC C k ∨ setC C k))) := rfl
        clear ih
        refine jm_aload_n d_B_done_37 rfl ?_
        refine cr_get 78 0 d_B_done_38 f_B_11 hc rfl rfl rfl rfl (v := .ref (L 0 0)) rfl ?_
        refine jm_iload_n d_B_done_41 rfl ?_
        refine cr_ald 3 70 k (e := k) d_B_done_42 (by decide) rfl hc (show k < sz 1 0 by omega) rfl rfl rfl rfl (by have := hc.B.1; omega) (by decide) (v := .ref (L 1 k)) rfl ?_
        refine cr_get 10 k d_B_done_43 f_B_212 hc (show k < sz 1 0 by omega) rfl rfl rfl (v := .ref (L 5 p)) (cE_part hp1 hp2) ?_
        refine cr_callp (r := ("BargainTree$Part", jm_F2, 3)) (As := []) d_B_done_46 l_B_233 iw_P_foundNone ew_P_foundNone rfl nv_P_foundNone rfl (hc.1 12 p (show p < 8 ∧ sz 5 p = 1 from ⟨by omega, hp3⟩)).1 (Nat.le_of_ble_eq_true rfl) (by omega : 0 + 1 ≤ _) (k_P_foundNone (p := p) hp2 hp3) hc ?_
        rw [el]
        refine jm_istore d_B_done_49 (Nat.le_of_ble_eq_true rfl) ?_
        refine jm_iload_n d_B_done_51 rfl ?_
        first | refine jm_bz_ne 60 d_B_done_52 (by decide) (fun hb52 => ?_) (fun hb52 => ?_) | refine jm_if_ne 60 d_B_done_52 (by decide) (fun hb52 => ?_) (fun hb52 => ?_)
        · refine jm_iconstL (v := nI 1) d_B_done_60 (by decide) ?_
          refine jm_goto 65 d_B_done_61 (by decide) ?_
          refine jm_istore_n d_B_done_65 (Nat.le_of_ble_eq_true rfl) ?_
          refine jm_iload_n d_B_done_66 rfl ?_
          first | refine jm_bz_eq 91 d_B_done_67 (by decide) (fun hb67 => ?_) (fun hb67 => ?_) | refine jm_if_eq 91 d_B_done_67 (by decide) (fun hb67 => ?_) (fun hb67 => ?_)
          · refine jm_iconstL (v := nI 0) d_B_done_91 (by decide) ?_
            refine jm_istore_n d_B_done_92 (Nat.le_of_ble_eq_true rfl) ?_
            refine jm_iincL (v := nI (k + 1)) d_B_done_93 rfl (by rw [nI_succ]; rfl) ?_
            refine jm_goto 15 d_B_done_96 (by decide) ?_
            have e9 := e9 (some (.int (if lostC C k then 1 else 0)))
            rw [el2, eo2] at e9
            first | rw [bzO1 hb52] at e9 | rw [bzO2 hb57] at e9 | rw [bzO0 hb52 hb57] at e9
            first | rw [bzN0 hb67] at e9 | rw [bzN1 hb67 hb72] at e9 | rw [bzN2 hb67 hb84] at e9 | rw [bzN3 hb67 hb72 hb84] at e9
            exact e9
          · refine jm_iload d_B_done_70 rfl ?_
            first | refine jm_bz_ne 87 d_B_done_72 (by decide) (fun hb72 => ?_) (fun hb72 => ?_) | refine jm_if_ne 87 d_B_done_72 (by decide) (fun hb72 => ?_) (fun hb72 => ?_)
            · refine jm_iconstL (v := nI 1) d_B_done_87 (by decide) ?_
              refine jm_goto 92 d_B_done_88 (by decide) ?_
              refine jm_istore_n d_B_done_92 (Nat.le_of_ble_eq_true rfl) ?_
              refine jm_iincL (v := nI (k + 1)) d_B_done_93 rfl (by rw [nI_succ]; rfl) ?_
              refine jm_goto 15 d_B_done_96 (by decide) ?_
              have e9 := e9 (some (.int (if lostC C k then 1 else 0)))
              rw [el2, eo2] at e9
              first | rw [bzO1 hb52] at e9 | rw [bzO2 hb57] at e9 | rw [bzO0 hb52 hb57] at e9
              first | rw [bzN0 hb67] at e9 | rw [bzN1 hb67 hb72] at e9 | rw [bzN2 hb67 hb84] at e9 | rw [bzN3 hb67 hb72 hb84] at e9
              exact e9
            · refine jm_aload_n d_B_done_75 rfl ?_
              refine cr_get 78 0 d_B_done_76 f_B_11 hc rfl rfl rfl rfl (v := .ref (L 0 0)) rfl ?_
              refine jm_iload_n d_B_done_79 rfl ?_
              refine cr_ald 3 70 k (e := k) d_B_done_80 (by decide) rfl hc (show k < sz 1 0 by omega) rfl rfl rfl rfl (by have := hc.B.1; omega) (by decide) (v := .ref (L 1 k)) rfl ?_
              refine cr_callp (r := ("BargainTree$Agent", jm_F1, 18)) (As := []) d_B_done_81 l_B_236 iw_A_isSettled ew_A_isSettled rfl nv_A_isSettled rfl (hc.1 3 k (show k < sz 1 0 by omega)).1 (Nat.le_of_ble_eq_true rfl) (by omega : 0 + 1 ≤ _) (k_A_isSettled (a := k) (by omega) (Or.inr (hpt k hkn))) hc ?_
              first | refine jm_bz_eq 91 d_B_done_84 (by decide) (fun hb84 => ?_) (fun hb84 => ?_) | refine jm_if_eq 91 d_B_done_84 (by decide) (fun hb84 => ?_) (fun hb84 => ?_)
              · refine jm_iconstL (v := nI 0) d_B_done_91 (by decide) ?_
                refine jm_istore_n d_B_done_92 (Nat.le_of_ble_eq_true rfl) ?_
                refine jm_iincL (v := nI (k + 1)) d_B_done_93 rfl (by rw [nI_succ]; rfl) ?_
                refine jm_goto 15 d_B_done_96 (by decide) ?_
                have e9 := e9 (some (.int (if lostC C k then 1 else 0)))
                rw [el2, eo2] at e9
                first | rw [bzO1 hb52] at e9 | rw [bzO2 hb57] at e9 | rw [bzO0 hb52 hb57] at e9
                first | rw [bzN0 hb67] at e9 | rw [bzN1 hb67 hb72] at e9 | rw [bzN2 hb67 hb84] at e9 | rw [bzN3 hb67 hb72 hb84] at e9
                exact e9
              · refine jm_iconstL (v := nI 1) d_B_done_87 (by decide) ?_
                refine jm_goto 92 d_B_done_88 (by decide) ?_
                refine jm_istore_n d_B_done_92 (Nat.le_of_ble_eq_true rfl) ?_
                refine jm_iincL (v := nI (k + 1)) d_B_done_93 rfl (by rw [nI_succ]; rfl) ?_
                refine jm_goto 15 d_B_done_96 (by decide) ?_
                have e9 := e9 (some (.int (if lostC C k then 1 else 0)))
                rw [el2, eo2] at e9
                first | rw [bzO1 hb52] at e9 | rw [bzO2 hb57] at e9 | rw [bzO0 hb52 hb57] at e9
                first | rw [bzN0 hb67] at e9 | rw [bzN1 hb67 hb72] at e9 | rw [bzN2 hb67 hb84] at e9 | rw [bzN3 hb67 hb72 hb84] at e9
                exact e9
        · refine jm_iload d_B_done_55 rfl ?_
          first | refine jm_bz_eq 64 d_B_done_57 (by decide) (fun hb57 => ?_) (fun hb57 => ?_) | refine jm_if_eq 64 d_B_done_57 (by decide) (fun hb57 => ?_) (fun hb57 => ?_)
          · refine jm_iconstL (v := nI 0) d_B_done_64 (by decide) ?_
            refine jm_istore_n d_B_done_65 (Nat.le_of_ble_eq_true rfl) ?_
            refine jm_iload_n d_B_done_66 rfl ?_
            first | refine jm_bz_eq 91 d_B_done_67 (by decide) (fun hb67 => ?_) (fun hb67 => ?_) | refine jm_if_eq 91 d_B_done_67 (by decide) (fun hb67 => ?_) (fun hb67 => ?_)
            · refine jm_iconstL (v := nI 0) d_B_done_91 (by decide) ?_
              refine jm_istore_n d_B_done_92 (Nat.le_of_ble_eq_true rfl) ?_
              refine jm_iincL (v := nI (k + 1)) d_B_done_93 rfl (by rw [nI_succ]; rfl) ?_
              refine jm_goto 15 d_B_done_96 (by decide) ?_
              have e9 := e9 (some (.int (if lostC C k then 1 else 0)))
              rw [el2, eo2] at e9
              first | rw [bzO1 hb52] at e9 | rw [bzO2 hb57] at e9 | rw [bzO0 hb52 hb57] at e9
              first | rw [bzN0 hb67] at e9 | rw [bzN1 hb67 hb72] at e9 | rw [bzN2 hb67 hb84] at e9 | rw [bzN3 hb67 hb72 hb84] at e9
              exact e9
            · refine jm_iload d_B_done_70 rfl ?_
              first | refine jm_bz_ne 87 d_B_done_72 (by decide) (fun hb72 => ?_) (fun hb72 => ?_) | refine jm_if_ne 87 d_B_done_72 (by decide) (fun hb72 => ?_) (fun hb72 => ?_)
              · refine jm_iconstL (v := nI 1) d_B_done_87 (by decide) ?_
                refine jm_goto 92 d_B_done_88 (by decide) ?_
                refine jm_istore_n d_B_done_92 (Nat.le_of_ble_eq_true rfl) ?_
                refine jm_iincL (v := nI (k + 1)) d_B_done_93 rfl (by rw [nI_succ]; rfl) ?_
                refine jm_goto 15 d_B_done_96 (by decide) ?_
                have e9 := e9 (some (.int (if lostC C k then 1 else 0)))
                rw [el2, eo2] at e9
                first | rw [bzO1 hb52] at e9 | rw [bzO2 hb57] at e9 | rw [bzO0 hb52 hb57] at e9
                first | rw [bzN0 hb67] at e9 | rw [bzN1 hb67 hb72] at e9 | rw [bzN2 hb67 hb84] at e9 | rw [bzN3 hb67 hb72 hb84] at e9
                exact e9
              · refine jm_aload_n d_B_done_75 rfl ?_
                refine cr_get 78 0 d_B_done_76 f_B_11 hc rfl rfl rfl rfl (v := .ref (L 0 0)) rfl ?_
                refine jm_iload_n d_B_done_79 rfl ?_
                refine cr_ald 3 70 k (e := k) d_B_done_80 (by decide) rfl hc (show k < sz 1 0 by omega) rfl rfl rfl rfl (by have := hc.B.1; omega) (by decide) (v := .ref (L 1 k)) rfl ?_
                refine cr_callp (r := ("BargainTree$Agent", jm_F1, 18)) (As := []) d_B_done_81 l_B_236 iw_A_isSettled ew_A_isSettled rfl nv_A_isSettled rfl (hc.1 3 k (show k < sz 1 0 by omega)).1 (Nat.le_of_ble_eq_true rfl) (by omega : 0 + 1 ≤ _) (k_A_isSettled (a := k) (by omega) (Or.inr (hpt k hkn))) hc ?_
                first | refine jm_bz_eq 91 d_B_done_84 (by decide) (fun hb84 => ?_) (fun hb84 => ?_) | refine jm_if_eq 91 d_B_done_84 (by decide) (fun hb84 => ?_) (fun hb84 => ?_)
                · refine jm_iconstL (v := nI 0) d_B_done_91 (by decide) ?_
                  refine jm_istore_n d_B_done_92 (Nat.le_of_ble_eq_true rfl) ?_
                  refine jm_iincL (v := nI (k + 1)) d_B_done_93 rfl (by rw [nI_succ]; rfl) ?_
                  refine jm_goto 15 d_B_done_96 (by decide) ?_
                  have e9 := e9 (some (.int (if lostC C k then 1 else 0)))
                  rw [el2, eo2] at e9
                  first | rw [bzO1 hb52] at e9 | rw [bzO2 hb57] at e9 | rw [bzO0 hb52 hb57] at e9
                  first | rw [bzN0 hb67] at e9 | rw [bzN1 hb67 hb72] at e9 | rw [bzN2 hb67 hb84] at e9 | rw [bzN3 hb67 hb72 hb84] at e9
                  exact e9
                · refine jm_iconstL (v := nI 1) d_B_done_87 (by decide) ?_
                  refine jm_goto 92 d_B_done_88 (by decide) ?_
                  refine jm_istore_n d_B_done_92 (Nat.le_of_ble_eq_true rfl) ?_
                  refine jm_iincL (v := nI (k + 1)) d_B_done_93 rfl (by rw [nI_succ]; rfl) ?_
                  refine jm_goto 15 d_B_done_96 (by decide) ?_
                  have e9 := e9 (some (.int (if lostC C k then 1 else 0)))
                  rw [el2, eo2] at e9
                  first | rw [bzO1 hb52] at e9 | rw [bzO2 hb57] at e9 | rw [bzO0 hb52 hb57] at e9
                  first | rw [bzN0 hb67] at e9 | rw [bzN1 hb67 hb72] at e9 | rw [bzN2 hb67 hb84] at e9 | rw [bzN3 hb67 hb72 hb84] at e9
                  exact e9
          · refine jm_iconstL (v := nI 1) d_B_done_60 (by decide) ?_
            refine jm_goto 65 d_B_done_61 (by decide) ?_
            refine jm_istore_n d_B_done_65 (Nat.le_of_ble_eq_true rfl) ?_
            refine jm_iload_n d_B_done_66 rfl ?_
            first | refine jm_bz_eq 91 d_B_done_67 (by decide) (fun hb67 => ?_) (fun hb67 => ?_) | refine jm_if_eq 91 d_B_done_67 (by decide) (fun hb67 => ?_) (fun hb67 => ?_)
            · refine jm_iconstL (v := nI 0) d_B_done_91 (by decide) ?_
              refine jm_istore_n d_B_done_92 (Nat.le_of_ble_eq_true rfl) ?_
              refine jm_iincL (v := nI (k + 1)) d_B_done_93 rfl (by rw [nI_succ]; rfl) ?_
              refine jm_goto 15 d_B_done_96 (by decide) ?_
              have e9 := e9 (some (.int (if lostC C k then 1 else 0)))
              rw [el2, eo2] at e9
              first | rw [bzO1 hb52] at e9 | rw [bzO2 hb57] at e9 | rw [bzO0 hb52 hb57] at e9
              first | rw [bzN0 hb67] at e9 | rw [bzN1 hb67 hb72] at e9 | rw [bzN2 hb67 hb84] at e9 | rw [bzN3 hb67 hb72 hb84] at e9
              exact e9
            · refine jm_iload d_B_done_70 rfl ?_
              first | refine jm_bz_ne 87 d_B_done_72 (by decide) (fun hb72 => ?_) (fun hb72 => ?_) | refine jm_if_ne 87 d_B_done_72 (by decide) (fun hb72 => ?_) (fun hb72 => ?_)
              · refine jm_iconstL (v := nI 1) d_B_done_87 (by decide) ?_
                refine jm_goto 92 d_B_done_88 (by decide) ?_
                refine jm_istore_n d_B_done_92 (Nat.le_of_ble_eq_true rfl) ?_
                refine jm_iincL (v := nI (k + 1)) d_B_done_93 rfl (by rw [nI_succ]; rfl) ?_
                refine jm_goto 15 d_B_done_96 (by decide) ?_
                have e9 := e9 (some (.int (if lostC C k then 1 else 0)))
                rw [el2, eo2] at e9
                first | rw [bzO1 hb52] at e9 | rw [bzO2 hb57] at e9 | rw [bzO0 hb52 hb57] at e9
                first | rw [bzN0 hb67] at e9 | rw [bzN1 hb67 hb72] at e9 | rw [bzN2 hb67 hb84] at e9 | rw [bzN3 hb67 hb72 hb84] at e9
                exact e9
              · refine jm_aload_n d_B_done_75 rfl ?_
                refine cr_get 78 0 d_B_done_76 f_B_11 hc rfl rfl rfl rfl (v := .ref (L 0 0)) rfl ?_
                refine jm_iload_n d_B_done_79 rfl ?_
                refine cr_ald 3 70 k (e := k) d_B_done_80 (by decide) rfl hc (show k < sz 1 0 by omega) rfl rfl rfl rfl (by have := hc.B.1; omega) (by decide) (v := .ref (L 1 k)) rfl ?_
                refine cr_callp (r := ("BargainTree$Agent", jm_F1, 18)) (As := []) d_B_done_81 l_B_236 iw_A_isSettled ew_A_isSettled rfl nv_A_isSettled rfl (hc.1 3 k (show k < sz 1 0 by omega)).1 (Nat.le_of_ble_eq_true rfl) (by omega : 0 + 1 ≤ _) (k_A_isSettled (a := k) (by omega) (Or.inr (hpt k hkn))) hc ?_
                first | refine jm_bz_eq 91 d_B_done_84 (by decide) (fun hb84 => ?_) (fun hb84 => ?_) | refine jm_if_eq 91 d_B_done_84 (by decide) (fun hb84 => ?_) (fun hb84 => ?_)
                · refine jm_iconstL (v := nI 0) d_B_done_91 (by decide) ?_
                  refine jm_istore_n d_B_done_92 (Nat.le_of_ble_eq_true rfl) ?_
                  refine jm_iincL (v := nI (k + 1)) d_B_done_93 rfl (by rw [nI_succ]; rfl) ?_
                  refine jm_goto 15 d_B_done_96 (by decide) ?_
                  have e9 := e9 (some (.int (if lostC C k then 1 else 0)))
                  rw [el2, eo2] at e9
                  first | rw [bzO1 hb52] at e9 | rw [bzO2 hb57] at e9 | rw [bzO0 hb52 hb57] at e9
                  first | rw [bzN0 hb67] at e9 | rw [bzN1 hb67 hb72] at e9 | rw [bzN2 hb67 hb84] at e9 | rw [bzN3 hb67 hb72 hb84] at e9
                  exact e9
                · refine jm_iconstL (v := nI 1) d_B_done_87 (by decide) ?_
                  refine jm_goto 92 d_B_done_88 (by decide) ?_
                  refine jm_istore_n d_B_done_92 (Nat.le_of_ble_eq_true rfl) ?_
                  refine jm_iincL (v := nI (k + 1)) d_B_done_93 rfl (by rw [nI_succ]; rfl) ?_
                  refine jm_goto 15 d_B_done_96 (by decide) ?_
                  have e9 := e9 (some (.int (if lostC C k then 1 else 0)))
                  rw [el2, eo2] at e9
                  first | rw [bzO1 hb52] at e9 | rw [bzO2 hb57] at e9 | rw [bzO0 hb52 hb57] at e9
                  first | rw [bzN0 hb67] at e9 | rw [bzN1 hb67 hb72] at e9 | rw [bzN2 hb67 hb84] at e9 | rw [bzN3 hb67 hb72 hb84] at e9
                  exact e9
      · refine jm_iconstL (v := nI 3) d_B_done_35 (by decide) ?_
        exact jm_iret d_B_done_36 rfl ⟨rfl, by rw [stC, if_neg e0, if_pos (anyB_mono (decide_eq_true hb32) n hkn)]; rfl⟩
theorem k_B_done {n : Nat} (hd : 1 ≤ d) (hn : C 1 0 = nI n) (hs : sz 1 0 = n) (h8 : n ≤ 8) (hpt : C 60 0 = 0 → ∀ k, k < n → ptC sz C k) : cA0 Γ m_B_done d x [.ref x] L sz C (some (.int (stC C n))) := by
  intro h ρ hc
  refine jm_entry (by decide +kernel) (List.forall_mem_cons.mpr ⟨rfl, fun _ h => nomatch h⟩) (Nat.le_of_ble_eq_true rfl) ?_
  show jm_W _ _ _ _ _ _ 0 [some (.ref x), none, none, none, none] [] _
  refine jm_aload_n d_B_done_0 rfl ?_
  refine cr_get 60 0 d_B_done_1 f_B_31 hc rfl rfl rfl rfl (v := .int (C 60 0)) rfl ?_
  first | refine jm_bz_eq 9 d_B_done_4 (by decide) (fun hb4 => ?_) (fun hb4 => ?_) | refine jm_if_eq 9 d_B_done_4 (by decide) (fun hb4 => ?_) (fun hb4 => ?_)
  · refine jm_iconstL (v := nI 1) d_B_done_9 (by decide) ?_
    refine jm_istore_n d_B_done_10 (Nat.le_of_ble_eq_true rfl) ?_
    refine jm_iconstL (v := nI 0) d_B_done_11 (by decide) ?_
    refine jm_istore_n d_B_done_12 (Nat.le_of_ble_eq_true rfl) ?_
    refine jm_iconstL (v := nI 0) d_B_done_13 (by decide) ?_
    refine jm_istore_n d_B_done_14 (Nat.le_of_ble_eq_true rfl) ?_
    exact lp_B_done hd hc hn hs h8 (Decidable.not_not.mp (fun q => q hb4)) (hpt (Decidable.not_not.mp (fun q => q hb4))) n 0 (by omega) rfl _
  · refine jm_iconstL (v := nI 0) d_B_done_7 (by decide) ?_
    exact jm_iret d_B_done_8 rfl ⟨rfl, by rw [stC, if_pos hb4]; rfl⟩
/-- the sum of the roots' first entries -/
def smC (C : mS) : Nat → Int32
  | 0 => 0
  | k + 1 => if rootC C k then smC C k + C 58 (256 * k + 0) else smC C k
theorem lp_B_total {rc rs n : Nat} (hd : 1 ≤ d) (hc : co Γ h x L ρ sz C) (hn : C 1 0 = nI n) (hs : sz 1 0 = n) (h8 : n ≤ 8) (hpt : ∀ k, k < n → ptC sz C k) (h57 : ∀ k, k < n → rootC C k → ∃ w, 0 < w ∧ w ≤ 256 ∧ C 57 k = nI w) : ∀ j k, k + j = n → jm_W Γ m_B_total d rc rs (fun oc h' => h' = h ∧ oc = .inl (some (.int (smC C n)))) 14 [some (.ref x), some (.int (smC C k)), some (.int (nI k))] [] h := by
  intro j
  induction j with
  | zero =>
    intro k hk
    have hk' : k = n := by omega
    subst hk'
    refine jm_iload_n d_B_total_14 rfl ?_
    refine jm_aload_n d_B_total_15 rfl ?_
    refine cr_get 1 0 d_B_total_16 f_B_42 hc rfl rfl rfl rfl (v := .int (C 1 0)) rfl ?_
    rw [hn]
    refine jm_icmp_ge 54 d_B_total_19 (by decide) (fun hb19 => ?_) (fun hb19 => ?_)
    · refine jm_iload_n d_B_total_54 rfl ?_
      exact jm_iret d_B_total_55 rfl ⟨rfl, rfl⟩
    · exact absurd (nI_le (by omega) (by omega)) hb19
  | succ j ih =>
    intro k hk
    have hkn : k < n := by omega
    have e9 := ih (k + 1) (by omega)
    have es : smC C (k + 1) = if rootC C k then smC C k + C 58 (256 * k + 0) else smC C k := rfl
    refine jm_iload_n d_B_total_14 rfl ?_
    refine jm_aload_n d_B_total_15 rfl ?_
    refine cr_get 1 0 d_B_total_16 f_B_42 hc rfl rfl rfl rfl (v := .int (C 1 0)) rfl ?_
    rw [hn]
    refine jm_icmp_ge 54 d_B_total_19 (by decide) (fun hb19 => ?_) (fun hb19 => ?_)
    · exact absurd hb19 (nI_ge (by omega) (by omega))
    · refine jm_aload_n d_B_total_22 rfl ?_
      refine cr_get 78 0 d_B_total_23 f_B_11 hc rfl rfl rfl rfl (v := .ref (L 0 0)) rfl ?_
      refine jm_iload_n d_B_total_26 rfl ?_
      refine cr_ald 3 70 k (e := k) d_B_total_27 (by decide) rfl hc (show k < sz 1 0 by omega) rfl rfl rfl rfl (by have := hc.B.1; omega) (by decide) (v := .ref (L 1 k)) rfl ?_
      refine cr_callp (r := ("BargainTree$Agent", jm_F1, 18)) (As := []) d_B_total_28 l_B_114 iw_A_isRoot ew_A_isRoot rfl nv_A_isRoot rfl (hc.1 3 k (show k < sz 1 0 by omega)).1 (Nat.le_of_ble_eq_true rfl) (by omega : 0 + 1 ≤ _) (k_A_isRoot (a := k) (by omega) (Or.inr (hpt k hkn))) hc ?_
      first | refine jm_bz_eq 48 d_B_total_31 (by decide) (fun hb31 => ?_) (fun hb31 => ?_) | refine jm_if_eq 48 d_B_total_31 (by decide) (fun hb31 => ?_) (fun hb31 => ?_)
      · refine jm_iincL (v := nI (k + 1)) d_B_total_48 rfl (by rw [nI_succ]; rfl) ?_
        refine jm_goto 14 d_B_total_51 (by decide) ?_
        first | rw [es, if_pos hb31] at e9 | rw [es, if_neg hb31] at e9
        exact e9
      · obtain ⟨w, hw1, hw2, hw3⟩ := h57 k hkn hb31
        refine jm_iload_n d_B_total_34 rfl ?_
        refine jm_aload_n d_B_total_35 rfl ?_
        refine cr_get 78 0 d_B_total_36 f_B_11 hc rfl rfl rfl rfl (v := .ref (L 0 0)) rfl ?_
        refine jm_iload_n d_B_total_39 rfl ?_
        refine cr_ald 3 70 k (e := k) d_B_total_40 (by decide) rfl hc (show k < sz 1 0 by omega) rfl rfl rfl rfl (by have := hc.B.1; omega) (by decide) (v := .ref (L 1 k)) rfl ?_
        refine cr_t57 k d_B_total_41 f_B_195 hc (show k < sz 1 0 by omega) (fun v9 hT9 => ?_)
        obtain ⟨q2, rfl, hR⟩ := hT9.is hw3 hw2
        refine jm_iconstL (v := nI 0) d_B_total_44 (by decide) ?_
        refine cr_rld d_B_total_45 hR rfl (by omega) ?_
        refine jm_iadd d_B_total_46 ?_
        refine jm_istore_n d_B_total_47 (Nat.le_of_ble_eq_true rfl) ?_
        refine jm_iincL (v := nI (k + 1)) d_B_total_48 rfl (by rw [nI_succ]; rfl) ?_
        refine jm_goto 14 d_B_total_51 (by decide) ?_
        first | rw [es, if_pos hb31] at e9 | rw [es, if_neg hb31] at e9
        exact e9
theorem k_B_total {n : Nat} (hd : 2 ≤ d) (hn : C 1 0 = nI n) (hs : sz 1 0 = n) (h8 : n ≤ 8) (hpt : C 60 0 = 0 → ∀ k, k < n → ptC sz C k) (h57 : stC C n = 1 → ∀ k, k < n → rootC C k → ∃ w, 0 < w ∧ w ≤ 256 ∧ C 57 k = nI w) : cA0 Γ m_B_total d x [.ref x] L sz C (some (.int (if stC C n = 1 then smC C n else -1))) := by
  intro h ρ hc
  refine jm_entry (by decide +kernel) (List.forall_mem_cons.mpr ⟨rfl, fun _ h => nomatch h⟩) (Nat.le_of_ble_eq_true rfl) ?_
  show jm_W _ _ _ _ _ _ 0 [some (.ref x), none, none] [] _
  refine jm_aload_n d_B_total_0 rfl ?_
  refine cr_callp (r := ("BargainTree", jm_F0, 9)) (As := []) d_B_total_1 l_B_207 iw_B_done ew_B_done rfl nv_B_done rfl (hc.1 1 0 rfl).1 (Nat.le_of_ble_eq_true rfl) (by omega : 1 + 1 ≤ _) (k_B_done (by omega) hn hs h8 hpt) hc ?_
  refine jm_iconstL (v := 1) d_B_total_4 (by decide) ?_
  refine jm_icmp_eq 10 d_B_total_5 (by decide) (fun hb5 => ?_) (fun hb5 => ?_)
  · refine jm_iconstL (v := 0) d_B_total_10 (by decide) ?_
    refine jm_istore_n d_B_total_11 (Nat.le_of_ble_eq_true rfl) ?_
    refine jm_iconstL (v := nI 0) d_B_total_12 (by decide) ?_
    refine jm_istore_n d_B_total_13 (Nat.le_of_ble_eq_true rfl) ?_
    have ho : C 60 0 = 0 := Decidable.not_not.mp (fun q => by rw [show stC C n = 0 from if_pos q] at hb5; exact absurd hb5 (by decide))
    refine jm_W.mono ?_ (lp_B_total (by omega) hc hn hs h8 (hpt ho) (h57 hb5) n 0 (by omega))
    rintro oc h' ⟨rfl, rfl⟩
    exact ⟨rfl, by rw [if_pos hb5]⟩
  · refine jm_iconstL (v := -1) d_B_total_8 (by decide) ?_
    exact jm_iret d_B_total_9 rfl ⟨rfl, by rw [if_neg hb5]⟩
end
