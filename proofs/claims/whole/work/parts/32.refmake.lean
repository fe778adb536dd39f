/-! THE REFERENCE: the best value, a table. Written by wip/whole/gen/p32.py -/
section
variable {Γ : jm_G} {d m : Nat} {ar : Nat → Nat} {S : mS} {h : jm_H}
def upn (nv : Nat → Nat) (a k : Nat) : Nat → Nat := fun b => if b = a then k else nv b
theorem upn_upn {nv : Nat → Nat} {a x y : Nat} : upn (upn nv a x) a y = upn nv a y := by
  funext b
  simp only [upn]
  split <;> rfl
/-- the least of the costs f 0, f 1 .., and where it is first -/
def blR (f : Nat → Nat) : Nat → Nat
  | 0 => 1048576
  | k + 1 => if f k < blR f k then f k else blR f k
def bvR (f : Nat → Nat) : Nat → Int32
  | 0 => -1
  | k + 1 => if f k < blR f k then nI k else bvR f k
theorem blR_le (f : Nat → Nat) : ∀ k, blR f k ≤ 1048576
  | 0 => Nat.le_refl _
  | k + 1 => by
    have := blR_le f k
    simp only [blR]
    split <;> omega
/-- a value is found just where the least is no longer never -/
theorem bvR_neg (f : Nat → Nat) : ∀ k, k < 2 ^ 31 → (bvR f k < 0 ↔ blR f k = 1048576)
  | 0, _ => by simp only [bvR, blR]; decide
  | k + 1, hk => by
    have h1 := bvR_neg f k (by omega)
    have h2 := blR_le f k
    simp only [bvR, blR]
    split
    · exact iff_of_false (nI_pos (by omega)) (by omega)
    · exact h1
theorem nvok_up {n a k : Nat} {nv : Nat → Nat} (hv : nvok S n nv) (hk : k < N S 3 a) (h4 : N S 3 a ≤ 4) : nvok S n (upn nv a k) := by
  intro b hb
  simp only [upn]
  by_cases h : b = a
  · rw [if_pos h, h]; exact ⟨by omega, fun _ => hk⟩
  · rw [if_neg h]; exact hv b hb
theorem lp_M_best {rc rs n a np cc z : Nat} {nv : Nat → Nat} {h0 : jm_H} {Q : jm_O → jm_H → Prop} (hd : 3 ≤ d) (ha : a < 8) (hw : cwf S n a np cc) (hv : nvok S n nv) (h32 : ∀ b, b < 8 → S 32 b = nI (nv b)) (hz : N S 3 a = z) (hz1 : 1 ≤ z)
    (hQ : ∀ h, mo h m ar (mu (mu S 33 0 (nI (blR (fun k => costN S (upn nv a k) a np cc) z))) 32 a (nI (z - 1))) → mo_fr m ar h0 h → Q (.inl (some (.int (bvR (fun k => costN S (upn nv a k) a np cc) z)))) h) :
    ∀ j k, k + j = z → ∀ x, (0 < k → x = nI (k - 1)) → ∀ h, mo h m ar (mu (mu S 33 0 (nI (blR (fun k => costN S (upn nv a k) a np cc) k))) 32 a x) → mo_fr m ar h0 h → ∀ x4, jm_W Γ m_M_best d rc rs Q 10 [some (.ref m), some (.int (nI a)), some (.int (bvR (fun k => costN S (upn nv a k) a np cc) k)), some (.int (nI k)), x4] [] h := by
  have hz3 := hw.1 a ha
  have hz4 : N S 3 a ≤ 4 := hz3.2
  have hle := fun k => blR_le (fun k => costN S (upn nv a k) a np cc) k
  intro j
  induction j with
  | zero =>
    intro k hk x hx h hm hf x4
    have hk' : k = z := by omega
    subst hk'
    have e3 : mu (mu S 33 0 (nI (blR (fun k => costN S (upn nv a k) a np cc) k))) 32 a x 3 a = nI k := hz3.1.trans (by rw [show N S 3 a = k from hz])
    refine jm_iload_n d_M_best_10 rfl ?_
    first | refine jm_aload_n d_M_best_11 rfl ?_ | refine jm_aload_nN d_M_best_11 rfl ?_
    refine mr_geta d_M_best_12 f_M_7 hm (by decide) (by decide) ?_
    refine jm_iload_n d_M_best_15 rfl ?_
    refine mr_ldN _ d_M_best_16 hm (by decide) (by decide) rfl rfl (by simp only [mo_len]; omega) ?_
    rw [e3]
    refine jm_icmp_ge 77 d_M_best_17 (by decide) (fun hb17 => ?_) (fun hb17 => ?_)
    · refine jm_iload_n d_M_best_77 rfl ?_
      exact jm_iret d_M_best_78 rfl (hQ h (by rw [hx (by omega)] at hm; exact hm) hf)
    · exact absurd (nI_le (by omega) (by omega)) hb17
  | succ j ih =>
    intro k hk x hx h hm hf x4
    have e3 : mu (mu S 33 0 (nI (blR (fun k => costN S (upn nv a k) a np cc) k))) 32 a x 3 a = nI z := hz3.1.trans (by rw [show N S 3 a = z from hz])
    have hbl := hle k
    have hv' : nvok S n (upn nv a k) := nvok_up hv (by omega) (by omega)
    have h32' : ∀ b, b < 8 → mu (mu S 33 0 (nI (blR (fun k => costN S (upn nv a k) a np cc) k))) 32 a (nI k) 32 b = nI (upn nv a k b) := by
      intro b hb
      by_cases e : b = a
      · simp [mu, upn, e]
      · simp [mu, upn, e, h32 b hb]
    have hcl : costN S (upn nv a k) a np cc < 2 ^ 31 := by
      simp only [costN]
      split <;> omega
    have ea : blR (fun k => costN S (upn nv a k) a np cc) (k + 1) = if costN S (upn nv a k) a np cc < blR (fun k => costN S (upn nv a k) a np cc) k then costN S (upn nv a k) a np cc else blR (fun k => costN S (upn nv a k) a np cc) k := rfl
    have eb : bvR (fun k => costN S (upn nv a k) a np cc) (k + 1) = if costN S (upn nv a k) a np cc < blR (fun k => costN S (upn nv a k) a np cc) k then nI k else bvR (fun k => costN S (upn nv a k) a np cc) k := rfl
    have e33 : mu (mu S 33 0 (nI (blR (fun k => costN S (upn nv a k) a np cc) k))) 32 a (nI k) 33 0 = nI (blR (fun k => costN S (upn nv a k) a np cc) k) := rfl
    have e9 := ih (k + 1) (by omega) (nI k) (fun _ => rfl)
    rw [ea, eb] at e9
    clear ea eb ih
    refine jm_iload_n d_M_best_10 rfl ?_
    first | refine jm_aload_n d_M_best_11 rfl ?_ | refine jm_aload_nN d_M_best_11 rfl ?_
    refine mr_geta d_M_best_12 f_M_7 hm (by decide) (by decide) ?_
    refine jm_iload_n d_M_best_15 rfl ?_
    refine mr_ldN _ d_M_best_16 hm (by decide) (by decide) rfl rfl (by simp only [mo_len]; omega) ?_
    rw [e3]
    refine jm_icmp_ge 77 d_M_best_17 (by decide) (fun hb17 => ?_) (fun hb17 => ?_)
    · exact absurd hb17 (nI_ge (by omega) (by omega))
    · first | refine jm_aload_n d_M_best_20 rfl ?_ | refine jm_aload_nN d_M_best_20 rfl ?_
      refine mr_geta d_M_best_21 f_M_92 hm (by decide) (by decide) ?_
      refine jm_iload_n d_M_best_24 rfl ?_
      refine jm_iload_n d_M_best_25 rfl ?_
      refine mr_stN _ d_M_best_26 hm hf (by decide) (by decide) rfl rfl (by simp only [mo_len]; omega) (fun h hm hf => ?_)
      first | refine jm_aload_n d_M_best_27 rfl ?_ | refine jm_aload_nN d_M_best_27 rfl ?_
      refine jm_iload_n d_M_best_28 rfl ?_
      rw [mu_mu] at hm
      refine mr_callp (As := [_]) d_M_best_29 l_M_196 iw_M_costNow ew_M_costNow nv_M_costNow rfl (Nat.le_of_ble_eq_true rfl) (by omega : 2 + 1 ≤ _) (k_M_costNow (S := mu (mu S 33 0 (nI (blR (fun k => costN S (upn nv a k) a np cc) k))) 32 a (nI k)) (nv := upn nv a k) (np := np) (cc := cc) (n := n) (by omega) ha hw hv' h32') hm ?_
      show jm_W _ _ _ _ _ _ 32 [some (.ref m), some (.int (nI a)), some (.int (bvR (fun k => costN S (upn nv a k) a np cc) k)), some (.int (nI k)), x4] [.int (nI (costN S (upn nv a k) a np cc))] h
      generalize hC : costN S (upn nv a k) a np cc = C at *
      refine jm_istore d_M_best_32 (Nat.le_of_ble_eq_true rfl) ?_
      refine jm_iload d_M_best_34 rfl ?_
      first | refine jm_aload_n d_M_best_36 rfl ?_ | refine jm_aload_nN d_M_best_36 rfl ?_
      refine mr_geti d_M_best_37 f_M_193 hm (by decide) rfl ?_
      rw [e33]
      refine jm_icmp_ge 47 d_M_best_40 (by decide) (fun hb40 => ?_) (fun hb40 => ?_)
      · refine jm_iload_n d_M_best_47 rfl ?_
        refine jm_istore_n d_M_best_48 (Nat.le_of_ble_eq_true rfl) ?_
        first | refine jm_aload_n d_M_best_49 rfl ?_ | refine jm_aload_nN d_M_best_49 rfl ?_
        refine jm_iload d_M_best_50 rfl ?_
        first | refine jm_aload_n d_M_best_52 rfl ?_ | refine jm_aload_nN d_M_best_52 rfl ?_
        refine mr_geti d_M_best_53 f_M_193 hm (by decide) rfl ?_
        rw [e33]
        refine jm_icmp_ge 64 d_M_best_56 (by decide) (fun hb56 => ?_) (fun hb56 => ?_)
        · first | refine jm_aload_n d_M_best_64 rfl ?_ | refine jm_aload_nN d_M_best_64 rfl ?_
          refine mr_geti d_M_best_65 f_M_193 hm (by decide) rfl ?_
          try rw [e33]
          refine mr_puti d_M_best_68 f_M_193 hm hf (by decide) rfl (fun h hm hf => ?_)
          refine jm_iincL (v := nI (k + 1)) d_M_best_71 rfl (by rw [nI_succ]; rfl) ?_
          refine jm_goto 10 d_M_best_74 (by decide) ?_
          rw [mu_cm (by decide), mu_mu] at hm
          first | (have hlt : C < blR (fun k => costN S (upn nv a k) a np cc) k := Nat.not_le.mp (fun q => hb40 ((nI_leI (by omega) hcl).mpr q))
                   rw [if_pos hlt, if_pos hlt] at e9
                   first | exact e9 h hm hf _ | exact absurd ((nI_leI (by omega) hcl).mp hb56) (by omega))
                | (have hge : ¬ C < blR (fun k => costN S (upn nv a k) a np cc) k := fun q => by have := (nI_leI (by omega) hcl).mp hb40; omega
                   rw [if_neg hge, if_neg hge] at e9
                   first | exact e9 h hm hf _ | exact absurd ((nI_leI (by omega) hcl).mpr (Nat.not_lt.mp hge)) hb56)
        · refine jm_iload d_M_best_59 rfl ?_
          refine jm_goto 68 d_M_best_61 (by decide) ?_
          try rw [e33]
          refine mr_puti d_M_best_68 f_M_193 hm hf (by decide) rfl (fun h hm hf => ?_)
          refine jm_iincL (v := nI (k + 1)) d_M_best_71 rfl (by rw [nI_succ]; rfl) ?_
          refine jm_goto 10 d_M_best_74 (by decide) ?_
          rw [mu_cm (by decide), mu_mu] at hm
          first | (have hlt : C < blR (fun k => costN S (upn nv a k) a np cc) k := Nat.not_le.mp (fun q => hb40 ((nI_leI (by omega) hcl).mpr q))
                   rw [if_pos hlt, if_pos hlt] at e9
                   first | exact e9 h hm hf _ | exact absurd ((nI_leI (by omega) hcl).mp hb56) (by omega))
                | (have hge : ¬ C < blR (fun k => costN S (upn nv a k) a np cc) k := fun q => by have := (nI_leI (by omega) hcl).mp hb40; omega
                   rw [if_neg hge, if_neg hge] at e9
                   first | exact e9 h hm hf _ | exact absurd ((nI_leI (by omega) hcl).mpr (Nat.not_lt.mp hge)) hb56)
      · refine jm_iload_n d_M_best_43 rfl ?_
        refine jm_goto 48 d_M_best_44 (by decide) ?_
        refine jm_istore_n d_M_best_48 (Nat.le_of_ble_eq_true rfl) ?_
        first | refine jm_aload_n d_M_best_49 rfl ?_ | refine jm_aload_nN d_M_best_49 rfl ?_
        refine jm_iload d_M_best_50 rfl ?_
        first | refine jm_aload_n d_M_best_52 rfl ?_ | refine jm_aload_nN d_M_best_52 rfl ?_
        refine mr_geti d_M_best_53 f_M_193 hm (by decide) rfl ?_
        rw [e33]
        refine jm_icmp_ge 64 d_M_best_56 (by decide) (fun hb56 => ?_) (fun hb56 => ?_)
        · first | refine jm_aload_n d_M_best_64 rfl ?_ | refine jm_aload_nN d_M_best_64 rfl ?_
          refine mr_geti d_M_best_65 f_M_193 hm (by decide) rfl ?_
          try rw [e33]
          refine mr_puti d_M_best_68 f_M_193 hm hf (by decide) rfl (fun h hm hf => ?_)
          refine jm_iincL (v := nI (k + 1)) d_M_best_71 rfl (by rw [nI_succ]; rfl) ?_
          refine jm_goto 10 d_M_best_74 (by decide) ?_
          rw [mu_cm (by decide), mu_mu] at hm
          first | (have hlt : C < blR (fun k => costN S (upn nv a k) a np cc) k := Nat.not_le.mp (fun q => hb40 ((nI_leI (by omega) hcl).mpr q))
                   rw [if_pos hlt, if_pos hlt] at e9
                   first | exact e9 h hm hf _ | exact absurd ((nI_leI (by omega) hcl).mp hb56) (by omega))
                | (have hge : ¬ C < blR (fun k => costN S (upn nv a k) a np cc) k := fun q => by have := (nI_leI (by omega) hcl).mp hb40; omega
                   rw [if_neg hge, if_neg hge] at e9
                   first | exact e9 h hm hf _ | exact absurd ((nI_leI (by omega) hcl).mpr (Nat.not_lt.mp hge)) hb56)
        · refine jm_iload d_M_best_59 rfl ?_
          refine jm_goto 68 d_M_best_61 (by decide) ?_
          try rw [e33]
          refine mr_puti d_M_best_68 f_M_193 hm hf (by decide) rfl (fun h hm hf => ?_)
          refine jm_iincL (v := nI (k + 1)) d_M_best_71 rfl (by rw [nI_succ]; rfl) ?_
          refine jm_goto 10 d_M_best_74 (by decide) ?_
          rw [mu_cm (by decide), mu_mu] at hm
          first | (have hlt : C < blR (fun k => costN S (upn nv a k) a np cc) k := Nat.not_le.mp (fun q => hb40 ((nI_leI (by omega) hcl).mpr q))
                   rw [if_pos hlt, if_pos hlt] at e9
                   first | exact e9 h hm hf _ | exact absurd ((nI_leI (by omega) hcl).mp hb56) (by omega))
                | (have hge : ¬ C < blR (fun k => costN S (upn nv a k) a np cc) k := fun q => by have := (nI_leI (by omega) hcl).mp hb40; omega
                   rw [if_neg hge, if_neg hge] at e9
                   first | exact e9 h hm hf _ | exact absurd ((nI_leI (by omega) hcl).mpr (Nat.not_lt.mp hge)) hb56)
theorem k_M_best {n a np cc z : Nat} {nv : Nat → Nat} (hd : 3 ≤ d) (ha : a < 8) (hw : cwf S n a np cc) (hv : nvok S n nv) (h32 : ∀ b, b < 8 → S 32 b = nI (nv b)) (hz : N S 3 a = z) (hz1 : 1 ≤ z) : mM Γ m_M_best d m ar [.int (nI a)] S (fun v9 S' => v9 = some (.int (bvR (fun k => costN S (upn nv a k) a np cc) z)) ∧ S' = mu (mu S 33 0 (nI (blR (fun k => costN S (upn nv a k) a np cc) z))) 32 a (nI (z - 1))) := by
  intro h hm
  have hf : mo_fr m ar h h := mo_fr.rf
  refine jm_entry (by decide +kernel) (List.forall_mem_cons.mpr ⟨rfl, List.forall_mem_cons.mpr ⟨rfl, fun _ h => nomatch h⟩⟩) (Nat.le_of_ble_eq_true rfl) ?_
  show jm_W _ _ _ _ _ _ 0 [some (.ref m), some (.int (nI a)), none, none, none] [] _
  first | refine jm_aload_n d_M_best_0 rfl ?_ | refine jm_aload_nN d_M_best_0 rfl ?_
  refine jm_ldc d_M_best_1 k_M_145 ?_
  refine mr_puti d_M_best_3 f_M_193 hm hf (by decide) rfl (fun h hm hf => ?_)
  refine jm_iconstL (v := (-1)) d_M_best_6 (by decide) ?_
  refine jm_istore_n d_M_best_7 (Nat.le_of_ble_eq_true rfl) ?_
  refine jm_iconstL (v := nI 0) d_M_best_8 (by decide) ?_
  refine jm_istore_n d_M_best_9 (Nat.le_of_ble_eq_true rfl) ?_
  refine lp_M_best (nv := nv) hd ha hw hv h32 hz hz1 (fun h hm hf => ⟨_, _, rfl, ⟨rfl, rfl⟩, hm, hf⟩) z 0 (by omega) (S 32 a) (fun q => absurd q (by omega)) h ?_ hf _
  rw [mu_id (S := mu S 33 0 _) (j := 32) (i := a) (x := S 32 a) rfl]
  exact hm
/-- f is laid into the first k places of row j -/
def rsR (S : mS) (j k : Nat) (f : Nat → Int32) : mS := fun j' x => if j' = j ∧ x < k then f x else S j' x
theorem rs_0 {j : Nat} {f : Nat → Int32} : rsR S j 0 f = S := by
  funext a b
  simp [rsR]
theorem rs_s {j k : Nat} {f : Nat → Int32} : mu (rsR S j k f) j k (f k) = rsR S j (k + 1) f := by
  funext a b
  simp only [mu, rsR]
  by_cases h1 : a = j
  · by_cases h2 : b = k
    · simp [h1, h2]
    · simp only [h1, h2, and_false, if_false, true_and]
      by_cases h3 : b < k
      · rw [if_pos h3, if_pos (by omega)]
      · rw [if_neg h3, if_neg (by omega)]
  · simp [h1]
theorem rs_u {j k q : Nat} {f g : Nat → Int32} {x : Int32} (hq : q < k) (h1 : g q = x) (h2 : ∀ b, b ≠ q → g b = f b) : mu (rsR S j k f) j q x = rsR S j k g := by
  funext a b
  simp only [mu, rsR]
  by_cases e1 : a = j
  · by_cases e2 : b = q
    · simp [e1, e2, hq, h1]
    · simp [e1, e2, h2 b e2]
  · simp [e1]
/-- the digits of i: the values of the agents in x at the place i -/
def dgR (z : Nat → Int32) (x : Int32) (i : Nat) : Nat → Nat := fun b => if cI x (nI b) then (i / unR z x b) % (z b).toNatClampNeg else 0
theorem dg_cy {i u s : Nat} (hu : 0 < u) (hs : 0 < s) (h : (i + 1) % u = 0) : ((i / u) % s + 1 = s → ((i + 1) / u) % s = 0 ∧ (i + 1) % (u * s) = 0) ∧ ((i / u) % s + 1 ≠ s → ((i + 1) / u) % s = (i / u) % s + 1 ∧ (i + 1) % (u * s) ≠ 0) := by
  obtain ⟨q, hq⟩ := Nat.dvd_of_mod_eq_zero h
  obtain ⟨p, rfl⟩ : ∃ p, q = p + 1 := by
    cases q with
    | zero => omega
    | succ p => exact ⟨p, rfl⟩
  have h1 : i / u = p := by
    have e : i = u * p + (u - 1) := by rw [Nat.mul_succ] at hq; omega
    rw [e, Nat.mul_add_div hu, Nat.div_eq_of_lt (by omega), Nat.add_zero]
  have h2 : (i + 1) / u = p + 1 := by rw [hq, Nat.mul_div_cancel_left _ hu]
  have h3 : (i + 1) % (u * s) = u * ((p + 1) % s) := by rw [hq, Nat.mul_mod_mul_left]
  rw [h1, h2, h3]
  have hlt := Nat.mod_lt p hs
  constructor
  · intro e
    have : (p + 1) % s = 0 := by
      rw [Nat.add_mod, show p % s = s - 1 by omega]
      rcases Nat.lt_or_ge 1 s with z | z
      · rw [Nat.mod_eq_of_lt z, show s - 1 + 1 = s by omega, Nat.mod_self]
      · have : s = 1 := by omega
        subst this
        exact Nat.mod_one _
    exact ⟨this, by rw [this, Nat.mul_zero]⟩
  · intro e
    have : (p + 1) % s = p % s + 1 := by
      rw [Nat.add_mod]
      rcases Nat.lt_or_ge 1 s with z | z
      · rw [Nat.mod_eq_of_lt z, Nat.mod_eq_of_lt (by omega)]
      · omega
    refine ⟨this, ?_⟩
    rw [this]
    intro w
    rcases Nat.mul_eq_zero.mp w with w | w <;> omega
theorem dg_nc {i u : Nat} (hu : 0 < u) (s : Nat) (h : (i + 1) % u ≠ 0) : (i + 1) / u = i / u ∧ (i + 1) % (u * s) ≠ 0 := by
  constructor
  · have h1 := Nat.div_add_mod i u
    have h2 := Nat.mod_lt i hu
    have h3 : i % u + 1 < u := by
      rcases Nat.lt_or_ge (i % u + 1) u with z | z
      · exact z
      · exfalso
        apply h
        have : i + 1 = u * (i / u + 1) := by rw [Nat.mul_succ]; omega
        rw [this, Nat.mul_mod_right]
    have e : i + 1 = u * (i / u) + (i % u + 1) := by omega
    rw [e, Nat.mul_add_div hu, Nat.div_eq_of_lt h3, Nat.add_zero]
  · intro w
    exact h (Nat.mod_eq_zero_of_dvd (Nat.dvd_trans (Nat.dvd_mul_right u s) (Nat.dvd_of_mod_eq_zero w)))
theorem unR_pos {z : Nat → Int32} {x : Int32} : ∀ k, (∀ b, b < k → cI x (nI b) → 0 < (z b).toNatClampNeg) → 0 < unR z x k
  | 0, _ => Nat.zero_lt_one
  | k + 1, h => by
    have h1 := unR_pos (z := z) (x := x) k (fun b hb => h b (by omega))
    simp only [unR]
    split
    · exact Nat.mul_pos h1 (h k (by omega) ‹_›)
    · exact h1
theorem s2R_c {s a : Nat} {ch ms ms' ce ce' z : Nat → Int32} {nv : Nat → Nat} (h1 : ∀ t, 8 ≤ t → ms t = ms' t) (h2 : ∀ i, 2048 ≤ i → ce i = ce' i) : ∀ k, s2R s ch ms ce z nv a k = s2R s ch ms' ce' z nv a k
  | 0 => rfl
  | k + 1 => by
    simp only [s2R]
    rw [s2R_c h1 h2 k, h1 _ (by omega), h2 _ (by omega)]
/-- entry i of the table that a makes -/
abbrev tabN (S : mS) (a np cc z i : Nat) : Nat := blR (fun k => costN S (upn (dgR (S 3) (S 22 a) i) a k) a np cc) z

end
