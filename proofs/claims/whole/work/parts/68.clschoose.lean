/-! THE CLASS: nothingTold, choose. Written by wip/whole/gen/p68.py -/
section
variable {Γ : jm_G} {d : Nat} {h h0 : jm_H} {x : Nat} {L : Nat → Nat → Nat} {ρ ρ0 : Nat → Nat} {sz : Nat → Nat → Nat} {C : mS}
/-- a private row filled -/
theorem lp_J_fill {q n : Nat} {y : Int32} (hn : n ≤ 256) (hq : h.1 q = some (100, n)) : ∀ j k, k + j = n → ∀ {h' : jm_H} {rc rs : Nat}, h'.1 = h.1 → (∀ p, p ≠ q → ∀ t i, h'.2 t i p = h.2 t i p) → (∀ i, i < k → h'.2 100 i q = .int y) →
    jm_W Γ m_J_fill d rc rs (fun oc h' => oc = .inl none ∧ h'.1 = h.1 ∧ (∀ p, p ≠ q → ∀ t i, h'.2 t i p = h.2 t i p) ∧ ∀ i, i < n → h'.2 100 i q = .int y) 5 [some (.ref q), some (.int y), some (.int (nI k)), some (.int (nI n))] [] h' := by
  intro j
  induction j with
  | zero =>
    intro k hk h' rc rs h1 h2 h3
    have ek : k = n := by omega
    refine jm_iload_n d_J_fill_5 rfl ?_
    refine jm_iload_n d_J_fill_6 rfl ?_
    refine jm_icmp_ge 20 d_J_fill_7 (by decide) (fun hb7 => ?_) (fun hb7 => ?_)
    · exact jm_vret d_J_fill_20 rfl ⟨rfl, h1, h2, fun i hi => h3 i (by omega)⟩
    · exact absurd (nI_le (by omega) (by omega)) hb7
  | succ j ih =>
    intro k hk h' rc rs h1 h2 h3
    refine jm_iload_n d_J_fill_5 rfl ?_
    refine jm_iload_n d_J_fill_6 rfl ?_
    refine jm_icmp_ge 20 d_J_fill_7 (by decide) (fun hb7 => ?_) (fun hb7 => ?_)
    · exact absurd hb7 (nI_ge (by omega) (by omega))
    · refine jm_aload_n d_J_fill_10 rfl ?_
      refine jm_iload_n d_J_fill_11 rfl ?_
      refine jm_iload_n d_J_fill_12 rfl ?_
      refine jm_iastore d_J_fill_13 (by rw [h1]; exact hq) (vp_in_nI (show k < n by omega) (by omega)) ?_
      rw [nI_clamp (show k < 2 ^ 31 by omega)]
      refine jm_iincL (v := nI (k + 1)) d_J_fill_14 rfl (by rw [nI_succ]; rfl) ?_
      refine jm_goto 5 d_J_fill_17 (by decide) ?_
      exact ih (k + 1) (by omega) h1 (fun p hp t i => by rw [show (jm_set h' 100 k q (.int y)).2 t i p = h'.2 t i p from by simp [jm_set, hp]]; exact h2 p hp t i) (fun i hi => by
        by_cases e : i = k
        · simp [jm_set, e]
        · simp [jm_set, e]; exact h3 i (by omega))
theorem k_J_fill {q n : Nat} {y : Int32} (hn : n ≤ 256) (hq : h.1 q = some (100, n)) : jm_M Γ m_J_fill d [.ref q, .int y] h 0 0 (fun oc h' => oc = .inl none ∧ h'.1 = h.1 ∧ (∀ p, p ≠ q → ∀ t i, h'.2 t i p = h.2 t i p) ∧ ∀ i, i < n → h'.2 100 i q = .int y) := by
  refine jm_entryF (by decide +kernel) (List.forall_mem_cons.mpr ⟨rfl, List.forall_mem_cons.mpr ⟨rfl, fun _ h => nomatch h⟩⟩) (Nat.le_of_ble_eq_true rfl) ?_
  show jm_W _ _ _ _ _ _ 0 [some (.ref q), some (.int y), none, none] [] _
  refine jm_iconstL (v := nI 0) d_J_fill_0 (by decide) ?_
  refine jm_istore_n d_J_fill_1 (Nat.le_of_ble_eq_true rfl) ?_
  refine jm_aload_n d_J_fill_2 rfl ?_
  refine jm_alen 0 d_J_fill_3 (by decide) hq ?_
  refine jm_istore_n d_J_fill_4 (Nat.le_of_ble_eq_true rfl) ?_
  exact lp_J_fill hn hq n 0 (by omega) rfl (fun _ _ _ _ => rfl) (fun i hi => absurd hi (Nat.not_lt_zero _))
/-- what was told with the own value beside it -/
def gUp (g : Nat → Int32) (a v : Nat) : Nat → Int32 := fun y => if y = a then nI v else g y
theorem co_eq {h' : jm_H} {q : Nat} (hc : co Γ h x L ρ sz C) (h6 : ρ q = 6) (h1 : h'.1 = h.1) (h2 : ∀ p, p ≠ q → ∀ t i, h'.2 t i p = h.2 t i p) : co Γ h' x L ρ sz C := by
  obtain ⟨c1, c2, c3, c4, c5, cb⟩ := hc
  have tb : ∀ {v : Value} {w : Int32} {f : Nat → Int32}, TB h ρ v w f → TB h' ρ v w f := fun hT => TB.fr (fun p hp hr => ⟨by rw [h1], rfl, fun t i => h2 p (fun e => by rw [e, h6] at hr; cases hr) t i⟩) hT
  refine ⟨fun r i hv => ?_, ?_, fun a ha => ?_, fun i hv => ?_, fun k hk => ?_, cb⟩
  · obtain ⟨q1, q2, q3⟩ := c1 r i hv
    have hne : cA x L r i ≠ q := fun e => by rw [e, h6] at q2; exact (cR_pos hv).2 q2.symm
    exact ⟨by rw [h1]; exact q1, q2, by rw [h2 _ hne]; exact q3⟩
  · rw [h1]; exact c2
  · have z := c1 3 a ha
    have hne : L 1 a ≠ q := fun e => by have := z.2.1; rw [show cA x L 3 a = q from e, h6] at this; exact (cR_pos (sz := sz) (r := 3) (i := a) ha).2 this.symm
    rw [h2 _ hne, h2 _ hne]
    exact ⟨tb (c3 a ha).1, tb (c3 a ha).2⟩
  · have z := c1 53 i hv
    have hne : L 4 i ≠ q := fun e => by have := z.2.1; rw [show cA x L 53 i = q from e, h6] at this; exact (cR_pos (sz := sz) (r := 53) (i := i) hv).2 this.symm
    rw [h2 _ hne]
    exact tb (c4 i hv)
  · obtain ⟨l1, l2, l3, l4, l5, l6, l7⟩ := c5 k hk
    have hne : L 8 k ≠ q := fun e => by rw [e, h6] at l2; cases l2
    exact ⟨by rw [h1]; exact l1, l2, by rw [h2 _ hne]; exact l3, by rw [h2 _ hne]; exact l4, by rw [h2 _ hne]; exact l5, by rw [h2 _ hne]; exact l6, by rw [h2 _ hne]; exact tb l7⟩
theorem xt_eq {h' : jm_H} {q : Nat} (hf : xt ρ0 h0 ρ h) (hq0 : h0.1 q = none) (h1 : h'.1 = h.1) (h2 : ∀ p, p ≠ q → ∀ t i, h'.2 t i p = h.2 t i p) : xt ρ0 h0 ρ h' := by
  intro p hp
  obtain ⟨k1, k2, k3⟩ := hf p hp
  have hne : p ≠ q := fun e => hp (e ▸ hq0)
  exact ⟨by rw [h1]; exact k1, k2, fun z t i => by rw [h2 p hne]; exact k3 z t i⟩
theorem k_B_nothingTold (hd : 1 ≤ d) (hc : co Γ h x L ρ sz C) : jm_M Γ m_B_nothingTold d [] h 1 8 (fun oc h' => ∃ q ρ', oc = .inl (some (.ref q)) ∧ V8 h' q (fun _ => -1) ∧ ρ' q = 0 ∧ co Γ h' x L ρ' sz C ∧ xt ρ h ρ' h') := by
  have hf : xt ρ h ρ h := xt.rf
  refine jm_entry (by decide +kernel) (fun _ h => nomatch h) (Nat.le_of_ble_eq_true rfl) ?_
  show jm_W _ _ _ _ _ _ 0 [none] [] _
  refine jm_bipushL (v := 8) d_B_nothingTold_0 (by decide) ?_
  refine jm_newarray 0 d_B_nothingTold_2 (by decide) ac_int rfl (fun U cA => va_nm_int) (by decide) (by decide) (by omega) (by decide) (fun q hq9 => ?_)
  have hc := co_nw (kn := (100, 8)) (dv := fun _ => .int 0) hc hq9 6
  obtain ⟨hf, hq0⟩ := xt_nw (kn := (100, 8)) (dv := fun _ => .int 0) hf hq9 6
  have kq : (jm_new h q (100, 8) (fun _ => .int 0)).1 q = some (100, 8) := if_pos rfl
  refine jm_astore_n d_B_nothingTold_4 (Nat.le_of_ble_eq_true rfl) ?_
  refine jm_aload_n d_B_nothingTold_5 rfl ?_
  refine jm_iconstL (v := -1) d_B_nothingTold_6 (by decide) ?_
  refine jm_callS (As := [_, _]) d_B_nothingTold_7 l_B_362 sw_J_fill nv_J_fill rfl (Nat.le_of_ble_eq_true rfl) (by omega : 0 + 1 ≤ _) (by omega) (by omega) (k_J_fill (by decide) kq) (fun v h' hq' => ?_) (fun X h' hq' => by cases hq'.1)
  obtain ⟨e0, g1, g2, g3⟩ := hq'
  cases e0
  have hc := co_rl (a := 0) (co_eq hc rl_eq g1 g2) rl_eq
  have hf := xt_rl (a := 0) (xt_eq hf hq0 g1 g2) hq0
  refine jm_aload_n d_B_nothingTold_10 rfl ?_
  exact jm_aret d_B_nothingTold_11 rfl (by first | exact Or.inl ⟨_, rfl⟩ | exact Or.inr ⟨_, rfl⟩) (Or.inr ⟨_, rfl⟩) ⟨q, _, rfl, ⟨by rw [g1]; exact kq, g3⟩, rl_eq, hc, hf⟩
/-- the entry that is due -/
abbrev duC (C : mS) (a n : Nat) (g : Nat → Int32) : Int32 := etV (C 57 a) (fun i => C 58 (256 * a + i)) (plI (C 3) (C 22 a) g n)
abbrev cuC (C : mS) (a n np cc : Nat) (nv : Nat → Nat) (g : Nat → Int32) (u : Nat) : Int32 := costC C (upn nv a u) (gUp g a u) a n np cc
abbrev cs0 (C : mS) (a v : Nat) (r : Int32) (g : Nat → Int32) : mS := mu (tbS C 59 66 a 8 (gUp g a v)) 28 a r
def chQ (C : mS) (sz : Nat → Nat → Nat) (a : Nat) (r : Int32) (n np cc nl z : Nat) (nv : Nat → Nat) (g : Nat → Int32) (sz' : Nat → Nat → Nat) (C' : mS) : Prop :=
  (duC C a n g = -2 ∧ sz' = sz ∧ C' = mu C 65 (C 10 a).toNatClampNeg r) ∨
  (duC C a n g ≠ -2 ∧ sz' = lu sz 8 0 (snl nl cc) ∧ ∃ v, v < z ∧ (∀ u, u < v → cuC C a n np cc nv g u ≠ duC C a n g) ∧ (v + 1 = z ∨ cuC C a n np cc nv g v = duC C a n g) ∧ C' = scC (cs0 C a v r g) a nl cc)
theorem V8_set {q a u v : Nat} {g : Nat → Int32} (hV : V8 h q (gUp g a u)) : V8 (jm_set h 100 a q (.int (nI v))) q (gUp g a v) := by
  refine ⟨hV.1, fun i hi => ?_⟩
  have z := hV.2 i hi
  unfold gUp at z ⊢
  by_cases e : i = a
  · simp [jm_set, e]
  · rw [if_neg e] at z ⊢; simp [jm_set, e]; exact z
theorem lp_B_choose {q a n np cc nl z : Nat} {r : Int32} {nv : Nat → Nat} {g : Nat → Int32} {w3 : Option Value} (hd : 3 ≤ d) (hw : cwC sz C n a np cc) (hz : C 3 a = nI z) (hz1 : 1 ≤ z) (hz4 : z ≤ 4) (hv : ∀ u, u < z → vwC C (upn nv a u) (gUp g a u) a np) (hdu : duC C a n g ≠ -2) (hcc : cc ≤ 7) (hn20 : C 34 0 = nI nl) (hs20 : sz 8 0 = nl) (h20 : nl ≤ 20) (hq0 : h0.1 q = none) :
    ∀ j v, v + 1 + j = z → ∀ {h : jm_H} {ρ : Nat → Nat} {rc rs : Nat}, 7 ≤ rc → 35 ≤ rs → co Γ h x L ρ sz C → xt ρ0 h0 ρ h → ρ q = 6 → V8 h q (gUp g a v) → (∀ u, u < v → cuC C a n np cc nv g u ≠ duC C a n g) →
      jm_W Γ m_B_choose d rc rs (fun oc h' => ∃ L' ρ' sz' C', (oc = .inl none ∧ kL8 L L' ∧ chQ C sz a r n np cc nl z nv g sz' C') ∧ co Γ h' x L' ρ' sz' C' ∧ xt ρ0 h0 ρ' h') 51 [some (.ref x), some (.ref (L 1 a)), some (.int r), w3, some (.int (duC C a n g)), some (.ref q), some (.int (nI (v + 1)))] [] h := by
  intro j
  induction j with
  | zero =>
    intro v hvz h ρ rc rs hrc hrs hc hf h6 hV hno
    have ez : v + 1 = z := by omega
    have ha1 : a < sz 1 0 := by have := hw.2.1; have := hw.2.2.2.1; omega
    refine jm_iload d_B_choose_51 rfl ?_
    refine jm_aload_n d_B_choose_53 rfl ?_
    refine cr_getG 3 a d_B_choose_54 f_B_245 hc (show a < sz 1 0 by omega) rfl rfl rfl (v := .int (C 3 a)) rfl ?_
    rw [hz]
    refine jm_icmp_ge 87 d_B_choose_57 (by decide) (fun hb57 => ?_) (fun hb57 => ?_)
    · obtain ⟨w1, w2, w3', w4, w5, w6, w7, w8, w9, w10, w11⟩ := id hw
      have hT : TB h (rl ρ q 0) (.ref q) 8 (gUp g a v) := Or.inr ⟨q, 8, rfl, rfl, by decide, hV.1, rl_eq, hV.2⟩
      refine jm_aload_n d_B_choose_87 rfl ?_
      refine jm_aload d_B_choose_88 rfl ?_
      refine jm_putf d_B_choose_90 f_B_201 (hc.1 3 a (show a < sz 1 0 by omega)).1 rfl rfl ?_
      obtain ⟨hc, hf⟩ := co_t59 (co_rl (a := 0) hc h6) (xt_rl (a := 0) hf hq0) (show a < sz 1 0 by omega) hT
      refine jm_aload_n d_B_choose_93 rfl ?_
      refine jm_iload_n d_B_choose_94 rfl ?_
      refine cr_put 28 a _ d_B_choose_95 f_B_281 hc hf (show a < sz 1 0 by omega) rfl rfl rfl (by decide) (by decide) rfl rfl rfl (fun h hc hf => ?_)
      have hc : co Γ h x L (rl ρ q 0) sz (cs0 C a v r g) := hc
      refine jm_aload_n d_B_choose_98 rfl ?_
      refine jm_aload_n d_B_choose_99 rfl ?_
      have er : ∀ j, j ≠ 28 → j ≠ 59 → j ≠ 66 → cs0 C a v r g j = C j := fun j q1 q2 q3 => by rw [cs0, mu_row q1, tbS_row q2 q3]
      refine cr_call (r := ("BargainTree", jm_F0, 9)) (As := [_]) d_B_choose_100 l_B_204 iw_B_sendChoices ew_B_sendChoices rfl nv_B_sendChoices rfl (hc.1 1 0 rfl).1 (Nat.le_of_ble_eq_true rfl) (by omega : 2 + 1 ≤ _) (by omega) (by omega) (k_B_sendChoices (a := a) (nl := nl) (cc := cc) (by omega) (by omega) (by rw [er 34 (by decide) (by decide) (by decide)]; exact hn20) hs20 h20 (by rw [er 52 (by decide) (by decide) (by decide)]; exact w8) w9 hcc (by rw [cs0, mu_row (by decide)]; simp [tbS]) (fun k hk => by rw [er 53 (by decide) (by decide) (by decide)]; obtain ⟨b, z1, z2⟩ := w11 k hk; exact ⟨b, by omega, z2⟩)) hc hf (fun X L' sz' C' q => by cases q.1) (fun v9 L' ρ' sz' C' h' hq hc hf _ => ?_)
      obtain ⟨e0, hk8, eS, eC⟩ := hq
      cases e0
      exact jm_vret d_B_choose_103 rfl ⟨_, _, _, _, ⟨rfl, hk8, Or.inr ⟨hdu, eS, v, by omega, hno, Or.inl ez, eC⟩⟩, hc, hf⟩
    · exact absurd (nI_le (by omega) (by omega)) hb57
  | succ j ih =>
    intro v hvz h ρ rc rs hrc hrs hc hf h6 hV hno
    have ha1 : a < sz 1 0 := by have := hw.2.1; have := hw.2.2.2.1; omega
    have ha8 : a < 8 := by have := hw.2.2.1; have := hw.2.2.2.1; omega
    refine jm_iload d_B_choose_51 rfl ?_
    refine jm_aload_n d_B_choose_53 rfl ?_
    refine cr_getG 3 a d_B_choose_54 f_B_245 hc (show a < sz 1 0 by omega) rfl rfl rfl (v := .int (C 3 a)) rfl ?_
    rw [hz]
    refine jm_icmp_ge 87 d_B_choose_57 (by decide) (fun hb57 => ?_) (fun hb57 => ?_)
    · exact absurd hb57 (nI_ge (by omega) (by omega))
    · refine jm_aload_n d_B_choose_60 rfl ?_
      refine jm_aload_n d_B_choose_61 rfl ?_
      refine jm_aload d_B_choose_62 rfl ?_
      refine jm_callVp (r := ("BargainTree", jm_F0, 9)) (As := [_, _]) d_B_choose_64 l_B_334 iw_B_costWith ew_B_costWith rfl nv_B_costWith rfl (hc.1 1 0 rfl).1 (Nat.le_of_ble_eq_true rfl) (by omega : 2 + 1 ≤ _) (k_B_costWith (by omega) hc hw (hv v (by omega)) hV) ?_
      refine jm_iload d_B_choose_67 rfl ?_
      refine jm_icmp_eq 87 d_B_choose_69 (by decide) (fun hb69 => ?_) (fun hb69 => ?_)
      · obtain ⟨w1, w2, w3', w4, w5, w6, w7, w8, w9, w10, w11⟩ := id hw
        have hT : TB h (rl ρ q 0) (.ref q) 8 (gUp g a v) := Or.inr ⟨q, 8, rfl, rfl, by decide, hV.1, rl_eq, hV.2⟩
        refine jm_aload_n d_B_choose_87 rfl ?_
        refine jm_aload d_B_choose_88 rfl ?_
        refine jm_putf d_B_choose_90 f_B_201 (hc.1 3 a (show a < sz 1 0 by omega)).1 rfl rfl ?_
        obtain ⟨hc, hf⟩ := co_t59 (co_rl (a := 0) hc h6) (xt_rl (a := 0) hf hq0) (show a < sz 1 0 by omega) hT
        refine jm_aload_n d_B_choose_93 rfl ?_
        refine jm_iload_n d_B_choose_94 rfl ?_
        refine cr_put 28 a _ d_B_choose_95 f_B_281 hc hf (show a < sz 1 0 by omega) rfl rfl rfl (by decide) (by decide) rfl rfl rfl (fun h hc hf => ?_)
        have hc : co Γ h x L (rl ρ q 0) sz (cs0 C a v r g) := hc
        refine jm_aload_n d_B_choose_98 rfl ?_
        refine jm_aload_n d_B_choose_99 rfl ?_
        have er : ∀ j, j ≠ 28 → j ≠ 59 → j ≠ 66 → cs0 C a v r g j = C j := fun j q1 q2 q3 => by rw [cs0, mu_row q1, tbS_row q2 q3]
        refine cr_call (r := ("BargainTree", jm_F0, 9)) (As := [_]) d_B_choose_100 l_B_204 iw_B_sendChoices ew_B_sendChoices rfl nv_B_sendChoices rfl (hc.1 1 0 rfl).1 (Nat.le_of_ble_eq_true rfl) (by omega : 2 + 1 ≤ _) (by omega) (by omega) (k_B_sendChoices (a := a) (nl := nl) (cc := cc) (by omega) (by omega) (by rw [er 34 (by decide) (by decide) (by decide)]; exact hn20) hs20 h20 (by rw [er 52 (by decide) (by decide) (by decide)]; exact w8) w9 hcc (by rw [cs0, mu_row (by decide)]; simp [tbS]) (fun k hk => by rw [er 53 (by decide) (by decide) (by decide)]; obtain ⟨b, z1, z2⟩ := w11 k hk; exact ⟨b, by omega, z2⟩)) hc hf (fun X L' sz' C' q => by cases q.1) (fun v9 L' ρ' sz' C' h' hq hc hf _ => ?_)
        obtain ⟨e0, hk8, eS, eC⟩ := hq
        cases e0
        exact jm_vret d_B_choose_103 rfl ⟨_, _, _, _, ⟨rfl, hk8, Or.inr ⟨hdu, eS, v, by omega, hno, Or.inr hb69, eC⟩⟩, hc, hf⟩
      · refine jm_aload d_B_choose_72 rfl ?_
        refine jm_aload_n d_B_choose_74 rfl ?_
        refine cr_getG 71 a d_B_choose_75 f_B_294 hc (show a < sz 1 0 by omega) rfl rfl rfl (v := .int (nI a)) rfl ?_
        refine jm_iload d_B_choose_78 rfl ?_
        refine jm_iastore d_B_choose_80 hV.1 (vp_in_nI ha8 (by decide)) ?_
        rw [nI_clamp (show a < 2 ^ 31 by omega)]
        refine jm_iincL (v := nI (v + 1 + 1)) d_B_choose_81 rfl (by rw [nI_succ (v + 1)]; rfl) ?_
        refine jm_goto 51 d_B_choose_84 (by decide) ?_
        exact ih (v + 1) (by omega) hrc hrs (co_wp hc h6) (xt_wp hf hq0) h6 (V8_set hV) (fun u hu => by
          rcases Nat.lt_or_ge u v with y | y
          · exact hno u y
          · rw [show u = v by omega]; exact hb69)
theorem k_B_choose {vq a n np cc nl z : Nat} {r : Int32} {nv : Nat → Nat} {g : Nat → Int32} (hd : 3 ≤ d) (hc : co Γ h x L ρ sz C) (hw : cwC sz C n a np cc) (hz : C 3 a = nI z) (hz1 : 1 ≤ z) (hz4 : z ≤ 4) (hv : ∀ u, u < z → vwC C (upn nv a u) (gUp g a u) a np) (hcc : cc ≤ 7) (hn20 : C 34 0 = nI nl) (hs20 : sz 8 0 = nl) (h20 : nl ≤ 20) (hpt : ptC sz C a) (hV : V8 h vq g) :
    jm_M Γ m_B_choose d [.ref x, .ref (L 1 a), .int r, .ref vq] h 8 43 (fun oc h' => ∃ L' ρ' sz' C', (oc = .inl none ∧ kL8 L L' ∧ chQ C sz a r n np cc nl z nv g sz' C') ∧ co Γ h' x L' ρ' sz' C' ∧ xt ρ h ρ' h') := by
  have hf : xt ρ h ρ h := xt.rf
  obtain ⟨w1, w2, w3, w4, w5, w6, w7, w8, w9, w10, w11⟩ := id hw
  obtain ⟨p, pr, p1, p2, p3, p4, p5⟩ := hpt
  have ha1 : a < sz 1 0 := by omega
  refine jm_entry (by decide +kernel) (List.forall_mem_cons.mpr ⟨rfl, List.forall_mem_cons.mpr ⟨rfl, List.forall_mem_cons.mpr ⟨rfl, List.forall_mem_cons.mpr ⟨rfl, fun _ h => nomatch h⟩⟩⟩⟩) (Nat.le_of_ble_eq_true rfl) ?_
  show jm_W _ _ _ _ _ _ 0 [some (.ref x), some (.ref (L 1 a)), some (.int r), some (.ref vq), none, none, none] [] _
  refine jm_aload_n d_B_choose_0 rfl ?_
  refine jm_aload_n d_B_choose_1 rfl ?_
  refine cr_t57 a d_B_choose_2 f_B_195 hc (show a < sz 1 0 by omega) (fun v9 hT9 => ?_)
  skip
  refine jm_aload_n d_B_choose_5 rfl ?_
  refine cr_get 22 a d_B_choose_6 f_B_242 hc (show a < sz 1 0 by omega) rfl rfl rfl (v := .int (C 22 a)) rfl ?_
  refine jm_aload_n d_B_choose_9 rfl ?_
  refine jm_callVp (r := ("BargainTree", jm_F0, 9)) (As := [_, _, _]) d_B_choose_10 l_B_358 iw_B_entryAt ew_B_entryAt rfl nv_B_entryAt rfl (hc.1 1 0 rfl).1 (Nat.le_of_ble_eq_true rfl) (by omega : 1 + 1 ≤ _) (k_B_entryAt (by omega) hc w1 w2 w3 hT9 hV _) ?_
  refine jm_istore d_B_choose_13 (Nat.le_of_ble_eq_true rfl) ?_
  refine jm_iload d_B_choose_15 rfl ?_
  refine jm_bipushL (v := (-2)) d_B_choose_17 (by decide) ?_
  refine jm_icmp_ne 31 d_B_choose_19 (by decide) (fun hb19 => ?_) (fun hb19 => ?_)
  · refine jm_aload_n d_B_choose_31 rfl ?_
    refine jm_clone d_B_choose_32 l_B_371 cl_same cl_nat cl_inst cl_sel cl_cast hV.1 (fun i hi => ⟨_, hV.2 i hi⟩) (by omega) (Nat.le_of_ble_eq_true rfl) (by omega) (by omega) (fun q hq9 => ?_)
    have hc := co_nw (kn := (100, 8)) (dv := fun i => h.2 100 i vq) hc hq9 6
    obtain ⟨hf, hq0⟩ := xt_nw (kn := (100, 8)) (dv := fun i => h.2 100 i vq) hf hq9 6
    have kq : (jm_new h q (100, 8) (fun i => h.2 100 i vq)).1 q = some (100, 8) := if_pos rfl
    refine jm_castI d_B_choose_35 c_B_372 kq ?_
    refine jm_astore d_B_choose_38 (Nat.le_of_ble_eq_true rfl) ?_
    refine jm_aload d_B_choose_40 rfl ?_
    refine jm_aload_n d_B_choose_42 rfl ?_
    refine cr_getG 71 a d_B_choose_43 f_B_294 hc (show a < sz 1 0 by omega) rfl rfl rfl (v := .int (nI a)) rfl ?_
    refine jm_iconstL (v := 0) d_B_choose_46 (by decide) ?_
    refine jm_iastore d_B_choose_47 kq (vp_in_nI (show a < 8 by omega) (by decide)) ?_
    rw [nI_clamp (show a < 2 ^ 31 by omega)]
    have hV' : V8 (jm_set (jm_new h q (100, 8) (fun i => h.2 100 i vq)) 100 a q (.int 0)) q (gUp g a 0) := by
      refine ⟨kq, fun i hi => ?_⟩
      unfold gUp
      by_cases e : i = a
      · simp [jm_set, e]; rfl
      · rw [if_neg e]; simp [jm_set, jm_new, e]; exact hV.2 i hi
    refine jm_iconstL (v := nI (0 + 1)) d_B_choose_48 (by decide) ?_
    refine jm_istore d_B_choose_49 (Nat.le_of_ble_eq_true rfl) ?_
    exact lp_B_choose hd hw hz hz1 hz4 hv hb19 hcc hn20 hs20 h20 hq0 (z - 1) 0 (by omega) (by omega) (by omega) (co_wp hc rl_eq) (xt_wp hf hq0) rl_eq hV' (fun u hu => absurd hu (Nat.not_lt_zero _))
  · refine jm_aload_n d_B_choose_22 rfl ?_
    refine cr_get 10 a d_B_choose_23 f_B_212 hc (show a < sz 1 0 by omega) rfl rfl rfl (v := .ref (L 5 p)) (cE_part p1 p2) ?_
    refine jm_iload_n d_B_choose_26 rfl ?_
    refine cr_put 65 p _ d_B_choose_27 f_B_368 hc hf (show p < 8 ∧ sz 5 p = 1 from ⟨by omega, p3⟩) rfl rfl rfl (by decide) (by decide) rfl rfl rfl (fun h hc hf => ?_)
    exact jm_vret d_B_choose_30 rfl ⟨_, _, _, _, ⟨rfl, fun _ _ _ => rfl, Or.inl ⟨Decidable.not_not.mp hb19, rfl, by rw [p1, nI_clamp (by omega)]⟩⟩, hc, hf⟩
end
