/-! THE CLASS: sizes, entries, costs. Written by wip/whole/gen/p55.py -/
section
variable {Γ : jm_G} {d x : Nat} {L sz : Nat → Nat → Nat} {C : mS} {h : jm_H} {ρ : Nat → Nat}
theorem lp_B_tableSize {rc rs n : Nat} {y : Int32} (hd : 1 ≤ d) (hc : co Γ h x L ρ sz C) (hn : C 1 0 = nI n) (hs : sz 1 0 = n) (h8 : n ≤ 8) (hz : ∀ b, b < n → C 3 b = nI (N C 3 b)) : ∀ j b, b + j = n → jm_W Γ m_B_tableSize d rc rs (fun oc h' => h' = h ∧ oc = .inl (some (.int (nI (unR (C 3) y n))))) 4 [some (.ref x), some (.int y), some (.int (nI (unR (C 3) y b))), some (.int (nI b))] [] h := by
  intro j
  induction j with
  | zero =>
    intro b hb
    have hb' : b = n := by omega
    subst hb'
    refine jm_iload_n d_B_tableSize_4 rfl ?_
    refine jm_aload_n d_B_tableSize_5 rfl ?_
    refine cr_get 1 0 d_B_tableSize_6 f_B_42 hc rfl rfl rfl rfl (v := .int (C 1 0)) rfl ?_
    rw [hn]
    refine jm_icmp_ge 38 d_B_tableSize_9 (by decide) (fun hb9 => ?_) (fun hb9 => ?_)
    · refine jm_iload_n d_B_tableSize_38 rfl ?_
      exact jm_iret d_B_tableSize_39 rfl ⟨rfl, rfl⟩
    · exact absurd (nI_le (by omega) (by omega)) hb9
  | succ j ih =>
    intro b hb
    have hbn : b < n := by omega
    have e9 := ih (b + 1) (by omega)
    refine jm_iload_n d_B_tableSize_4 rfl ?_
    refine jm_aload_n d_B_tableSize_5 rfl ?_
    refine cr_get 1 0 d_B_tableSize_6 f_B_42 hc rfl rfl rfl rfl (v := .int (C 1 0)) rfl ?_
    rw [hn]
    refine jm_icmp_ge 38 d_B_tableSize_9 (by decide) (fun hb9 => ?_) (fun hb9 => ?_)
    · exact absurd hb9 (nI_ge (by omega) (by omega))
    · refine jm_iload_n d_B_tableSize_12 rfl ?_
      refine jm_iload_n d_B_tableSize_13 rfl ?_
      refine jm_callSp (As := [_, _]) d_B_tableSize_14 l_B_227 sw_B_contains nv_B_contains rfl (Nat.le_of_ble_eq_true rfl) (by omega : 0 + 1 ≤ _) (k_B_contains _ _) ?_
      first | refine jm_bz_eq 32 d_B_tableSize_17 (by decide) (fun hb17 => ?_) (fun hb17 => ?_) | refine jm_if_eq 32 d_B_tableSize_17 (by decide) (fun hb17 => ?_) (fun hb17 => ?_)
      · refine jm_iincL (v := nI (b + 1)) d_B_tableSize_32 rfl (by rw [nI_succ]; rfl) ?_
        refine jm_goto 4 d_B_tableSize_35 (by decide) ?_
        first | rw [show unR (C 3) y (b + 1) = unR (C 3) y b from if_neg hb17] at e9 | rw [show unR (C 3) y (b + 1) = unR (C 3) y b * N C 3 b from if_pos hb17, ← pk_mul, ← hz b hbn] at e9
        exact e9
      · refine jm_iload_n d_B_tableSize_20 rfl ?_
        refine jm_aload_n d_B_tableSize_21 rfl ?_
        refine cr_get 78 0 d_B_tableSize_22 f_B_11 hc rfl rfl rfl rfl (v := .ref (L 0 0)) rfl ?_
        refine jm_iload_n d_B_tableSize_25 rfl ?_
        refine cr_ald 3 70 b (e := b) d_B_tableSize_26 (by decide) rfl hc (show b < sz 1 0 by omega) rfl rfl rfl rfl (by have := hc.B.1; omega) (by decide) (v := .ref (L 1 b)) rfl ?_
        refine cr_getG 3 b d_B_tableSize_27 f_B_245 hc (show b < sz 1 0 by omega) rfl rfl rfl (v := .int (C 3 b)) rfl ?_
        refine jm_imul d_B_tableSize_30 ?_
        refine jm_istore_n d_B_tableSize_31 (Nat.le_of_ble_eq_true rfl) ?_
        refine jm_iincL (v := nI (b + 1)) d_B_tableSize_32 rfl (by rw [nI_succ]; rfl) ?_
        refine jm_goto 4 d_B_tableSize_35 (by decide) ?_
        first | rw [show unR (C 3) y (b + 1) = unR (C 3) y b from if_neg hb17] at e9 | rw [show unR (C 3) y (b + 1) = unR (C 3) y b * N C 3 b from if_pos hb17, ← pk_mul, ← hz b hbn] at e9
        exact e9
theorem k_B_tableSize {n : Nat} (hn : C 1 0 = nI n) (hs : sz 1 0 = n) (h8 : n ≤ 8) (hd : 1 ≤ d) (hz : ∀ b, b < n → C 3 b = nI (N C 3 b)) (y : Int32) : cA0 Γ m_B_tableSize d x [.ref x, .int y] L sz C (some (.int (nI (unR (C 3) y n)))) := by
  intro h ρ hc
  refine jm_entry (by decide +kernel) (List.forall_mem_cons.mpr ⟨rfl, List.forall_mem_cons.mpr ⟨rfl, fun _ h => nomatch h⟩⟩) (Nat.le_of_ble_eq_true rfl) ?_
  show jm_W _ _ _ _ _ _ 0 [some (.ref x), some (.int y), none, none] [] _
  refine jm_iconstL (v := nI 1) d_B_tableSize_0 (by decide) ?_
  refine jm_istore_n d_B_tableSize_1 (Nat.le_of_ble_eq_true rfl) ?_
  refine jm_iconstL (v := nI 0) d_B_tableSize_2 (by decide) ?_
  refine jm_istore_n d_B_tableSize_3 (Nat.le_of_ble_eq_true rfl) ?_
  exact lp_B_tableSize hd hc hn hs h8 hz n 0 (by omega)
/-- entry i is tried, as far as the agents below k -/
def tyS (C : mS) (y : Int32) (i k : Nat) : mS := fun j q => if j = 32 ∧ q < k ∧ cI y (nI q) then nI (dgR (C 3) y i q) else C j q
theorem ty_n {y : Int32} {i k : Nat} (hc : ¬ cI y (nI k)) : tyS C y i (k + 1) = tyS C y i k := by
  funext j q
  simp only [tyS]
  by_cases h : j = 32 ∧ q < k ∧ cI y (nI q)
  · rw [if_pos h, if_pos ⟨h.1, by omega, h.2.2⟩]
  · rw [if_neg h, if_neg]
    rintro ⟨z1, z2, z3⟩
    by_cases e : q = k
    · exact hc (e ▸ z3)
    · exact h ⟨z1, by omega, z3⟩
theorem ty_s {y : Int32} {i k : Nat} (hc : cI y (nI k)) : mu (tyS C y i k) 32 k (nI (dgR (C 3) y i k)) = tyS C y i (k + 1) := by
  funext j q
  simp only [mu, tyS]
  by_cases e : j = 32 ∧ q = k
  · rw [if_pos e, if_pos ⟨e.1, by omega, by rw [e.2]; exact hc⟩, e.2]
  · rw [if_neg e]
    by_cases h : j = 32 ∧ q < k ∧ cI y (nI q)
    · rw [if_pos h, if_pos ⟨h.1, by omega, h.2.2⟩]
    · rw [if_neg h, if_neg]
      rintro ⟨z1, z2, z3⟩
      exact h ⟨z1, by have : q ≠ k := fun z => e ⟨z1, z⟩; omega, z3⟩
theorem lp_B_tryEntry {rc rs n i : Nat} {y : Int32} {h0 : jm_H} {ρ0 : Nat → Nat} {Q : jm_O → jm_H → Prop} {w2 : Option Value} (hd : 1 ≤ d) (hn : C 1 0 = nI n) (hs : sz 1 0 = n) (h8 : n ≤ 8) (hi : i < 2 ^ 31) (hz : ∀ b, b < n → C 3 b = nI (N C 3 b) ∧ N C 3 b ≤ 4 ∧ 1 ≤ N C 3 b)
    (hQ : ∀ h, co Γ h x L ρ sz (tyS C y i n) → xt ρ0 h0 ρ h → Q (.inl none) h) : ∀ j b, b + j = n → ∀ h, co Γ h x L ρ sz (tyS C y i b) → xt ρ0 h0 ρ h → jm_W Γ m_B_tryEntry d rc rs Q 5 [some (.ref x), some (.int y), w2, some (.int (nI (i / unR (C 3) y b))), some (.int (nI b))] [] h := by
  intro j
  induction j with
  | zero =>
    intro b hb h hc hf
    have hb' : b = n := by omega
    subst hb'
    have e1 : tyS C y i b 1 0 = nI b := hn
    refine jm_iload d_B_tryEntry_5 rfl ?_
    refine jm_aload_n d_B_tryEntry_7 rfl ?_
    refine cr_get 1 0 d_B_tryEntry_8 f_B_42 hc rfl rfl rfl rfl (v := .int (tyS C y i b 1 0)) rfl ?_
    rw [e1]
    refine jm_icmp_ge 61 d_B_tryEntry_11 (by decide) (fun hb11 => ?_) (fun hb11 => ?_)
    · exact jm_vret d_B_tryEntry_61 rfl (hQ h hc hf)
    · exact absurd (nI_le (by omega) (by omega)) hb11
  | succ j ih =>
    intro b hb h hc hf
    have hbn : b < n := by omega
    obtain ⟨z1, z2, z3⟩ := hz b hbn
    have e1 : tyS C y i b 1 0 = nI n := hn
    have e3 : tyS C y i b 3 b = nI (N C 3 b) := z1
    have e3' : ∀ v, mu (tyS C y i b) 32 b v 3 b = nI (N C 3 b) := fun _ => z1
    have hdl : i / unR (C 3) y b < 2 ^ 31 := Nat.lt_of_le_of_lt (Nat.div_le_self _ _) hi
    have hz0 : ¬ nI (N C 3 b) = 0 := nI_ne0 (by omega) (by omega)
    refine jm_iload d_B_tryEntry_5 rfl ?_
    refine jm_aload_n d_B_tryEntry_7 rfl ?_
    refine cr_get 1 0 d_B_tryEntry_8 f_B_42 hc rfl rfl rfl rfl (v := .int (tyS C y i b 1 0)) rfl ?_
    rw [e1]
    refine jm_icmp_ge 61 d_B_tryEntry_11 (by decide) (fun hb11 => ?_) (fun hb11 => ?_)
    · exact absurd hb11 (nI_ge (by omega) (by omega))
    · refine jm_iload_n d_B_tryEntry_14 rfl ?_
      refine jm_iload d_B_tryEntry_15 rfl ?_
      refine jm_callSp (As := [_, _]) d_B_tryEntry_17 l_B_227 sw_B_contains nv_B_contains rfl (Nat.le_of_ble_eq_true rfl) (by omega : 0 + 1 ≤ _) (k_B_contains _ _) ?_
      first | refine jm_bz_eq 55 d_B_tryEntry_20 (by decide) (fun hb20 => ?_) (fun hb20 => ?_) | refine jm_if_eq 55 d_B_tryEntry_20 (by decide) (fun hb20 => ?_) (fun hb20 => ?_)
      · refine jm_iincL (v := nI (b + 1)) d_B_tryEntry_55 rfl (by rw [nI_succ]; rfl) ?_
        refine jm_goto 5 d_B_tryEntry_58 (by decide) ?_
        have e9 := ih (b + 1) (by omega) h (by rw [ty_n hb20]; exact hc) hf
        rw [show unR (C 3) y (b + 1) = unR (C 3) y b from if_neg hb20] at e9
        exact e9
      · refine jm_aload_n d_B_tryEntry_23 rfl ?_
        refine cr_get 81 0 d_B_tryEntry_24 f_B_27 hc rfl rfl rfl rfl (v := .ref (L 0 3)) rfl ?_
        refine jm_iload d_B_tryEntry_27 rfl ?_
        refine jm_iload_n d_B_tryEntry_29 rfl ?_
        refine jm_aload_n d_B_tryEntry_30 rfl ?_
        refine cr_get 78 0 d_B_tryEntry_31 f_B_11 hc rfl rfl rfl rfl (v := .ref (L 0 0)) rfl ?_
        refine jm_iload d_B_tryEntry_34 rfl ?_
        refine cr_ald 3 70 b (e := b) d_B_tryEntry_36 (by decide) rfl hc (show b < sz 1 0 by omega) rfl rfl rfl rfl (by have := hc.B.1; omega) (by decide) (v := .ref (L 1 b)) rfl ?_
        refine cr_getG 3 b d_B_tryEntry_37 f_B_245 hc (show b < sz 1 0 by omega) rfl rfl rfl (v := .int (tyS C y i b 3 b)) rfl ?_
        rw [e3]
        refine jm_irem d_B_tryEntry_40 hz0 ?_
        refine cr_ist 32 b (e := b) d_B_tryEntry_41 hc hf (show b < 8 by omega) rfl rfl rfl (by decide) (by decide) rfl (by omega) (by decide) rfl (fun h hc hf => ?_)
        refine jm_iload_n d_B_tryEntry_42 rfl ?_
        refine jm_aload_n d_B_tryEntry_43 rfl ?_
        refine cr_get 78 0 d_B_tryEntry_44 f_B_11 hc rfl rfl rfl rfl (v := .ref (L 0 0)) rfl ?_
        refine jm_iload d_B_tryEntry_47 rfl ?_
        refine cr_ald 3 70 b (e := b) d_B_tryEntry_49 (by decide) rfl hc (show b < sz 1 0 by omega) rfl rfl rfl rfl (by have := hc.B.1; omega) (by decide) (v := .ref (L 1 b)) rfl ?_
        refine cr_getG 3 b d_B_tryEntry_50 f_B_245 hc (show b < sz 1 0 by omega) rfl rfl rfl (v := .int (mu (tyS C y i b) 32 b _ 3 b)) rfl ?_
        rw [e3']
        refine jm_idiv d_B_tryEntry_53 hz0 ?_
        refine jm_istore_n d_B_tryEntry_54 (Nat.le_of_ble_eq_true rfl) ?_
        refine jm_iincL (v := nI (b + 1)) d_B_tryEntry_55 rfl (by rw [nI_succ]; rfl) ?_
        refine jm_goto 5 d_B_tryEntry_58 (by decide) ?_
        rw [pk_rem hdl (by omega) (by omega), show i / unR (C 3) y b % N C 3 b = dgR (C 3) y i b from (if_pos hb20).symm, ty_s hb20] at hc
        have e9 := ih (b + 1) (by omega) h hc hf
        rw [show unR (C 3) y (b + 1) = unR (C 3) y b * N C 3 b from if_pos hb20, ← Nat.div_div_eq_div_mul, ← pk_div hdl (by omega) (by omega)] at e9
        exact e9
theorem k_B_tryEntry {n : Nat} (hn : C 1 0 = nI n) (hs : sz 1 0 = n) (h8 : n ≤ 8) (hd : 1 ≤ d) (hz : ∀ b, b < n → C 3 b = nI (N C 3 b) ∧ N C 3 b ≤ 4 ∧ 1 ≤ N C 3 b) (y : Int32) {i : Nat} (hi : i < 2 ^ 31) : cM Γ m_B_tryEntry d x [.ref x, .int y, .int (nI i)] L sz C 0 0 (fun oc L' sz' C' => oc = .inl none ∧ L' = L ∧ sz' = sz ∧ C' = tyS C y i n) := by
  intro h ρ hc
  have hf : xt ρ h ρ h := xt.rf
  refine jm_entry (by decide +kernel) (List.forall_mem_cons.mpr ⟨rfl, List.forall_mem_cons.mpr ⟨rfl, List.forall_mem_cons.mpr ⟨rfl, fun _ h => nomatch h⟩⟩⟩) (Nat.le_of_ble_eq_true rfl) ?_
  show jm_W _ _ _ _ _ _ 0 [some (.ref x), some (.int y), some (.int (nI i)), none, none] [] _
  refine jm_iload_n d_B_tryEntry_0 rfl ?_
  refine jm_istore_n d_B_tryEntry_1 (Nat.le_of_ble_eq_true rfl) ?_
  refine jm_iconstL (v := nI 0) d_B_tryEntry_2 (by decide) ?_
  refine jm_istore d_B_tryEntry_3 (Nat.le_of_ble_eq_true rfl) ?_
  have ht0 : tyS C y i 0 = C := by
    funext j q
    simp [tyS]
  have e9 := lp_B_tryEntry (rc := 0) (rs := 0) (w2 := some (.int (nI i))) (y := y) (Q := fun oc h' => ∃ L' ρ' sz' C', (oc = .inl none ∧ L' = L ∧ sz' = sz ∧ C' = tyS C y i n) ∧ co Γ h' x L' ρ' sz' C' ∧ xt ρ h ρ' h') hd hn hs h8 hi hz (fun h' hc' hf' => ⟨L, ρ, sz, _, ⟨rfl, rfl, rfl, rfl⟩, hc', hf'⟩) n 0 (by omega) h (by rw [ht0]; exact hc) hf
  rw [show i / unR (C 3) y 0 = i from Nat.div_one i] at e9
  exact e9
end
