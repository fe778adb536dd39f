/-! CLASS AND REFERENCE: join, findParts. Written by wip/whole/gen/p82.py -/
section
variable {Γ : jm_G} {d : Nat} {h h0 : jm_H} {x : Nat} {L : Nat → Nat → Nat} {ρ ρ0 : Nat → Nat} {sz : Nat → Nat → Nat} {C C0 : mS}
/-- the agents of y below k put into part a -/
def jnC (C : mS) (y : Int32) (a k : Nat) : mS := fun j i => if j = 10 ∧ i < k ∧ cI y (nI i) then nI a else C j i
theorem jnC_row {y : Int32} {a k j : Nat} (h : j ≠ 10) : jnC C y a k j = C j := by funext i; simp [jnC, h]
theorem lp_B_join {n a : Nat} {y : Int32} (hd : 1 ≤ d) (hn : C0 1 0 = nI n) (hs : sz 1 0 = n) (h8 : n ≤ 8) (ha : a < 8) :
    ∀ j k, k + j = n → ∀ {h : jm_H} {ρ : Nat → Nat} {C : mS} {rc rs : Nat}, co Γ h x L ρ sz C → xt ρ0 h0 ρ h → C = jnC C0 y a k →
      jm_W Γ m_B_join d rc rs (fun oc h' => ∃ L' ρ' sz' C', (oc = .inl none ∧ L' = L ∧ sz' = sz ∧ C' = jnC C0 y a n) ∧ co Γ h' x L' ρ' sz' C' ∧ xt ρ0 h0 ρ' h') 2 [some (.ref x), some (.int y), some (.ref (L 5 a)), some (.int (nI k))] [] h := by
  intro j
  induction j with
  | zero =>
    intro k hk h ρ C rc rs hc hf eC
    have ek : k = n := by omega
    have e1 : C 1 0 = nI n := by rw [eC, jnC_row (by decide), hn]
    refine jm_iload_n d_B_join_2 rfl ?_
    refine jm_aload_n d_B_join_3 rfl ?_
    refine cr_get 1 0 d_B_join_4 f_B_42 hc rfl rfl rfl rfl (v := .int (C 1 0)) rfl ?_
    rw [e1]
    refine jm_icmp_ge 34 d_B_join_7 (by decide) (fun hb7 => ?_) (fun hb7 => ?_)
    · exact jm_vret d_B_join_34 rfl ⟨_, _, _, _, ⟨rfl, rfl, rfl, by rw [eC, ek]⟩, hc, hf⟩
    · exact absurd (nI_le (by omega) (by omega)) hb7
  | succ j ih =>
    intro k hk h ρ C rc rs hc hf eC
    have e1 : C 1 0 = nI n := by rw [eC, jnC_row (by decide), hn]
    have stp : jnC C0 y a (k + 1) = if cI y (nI k) then mu C 10 k (nI a) else C := by
      rw [eC]
      by_cases z : cI y (nI k)
      · rw [if_pos z]; funext j i
        show (if j = 10 ∧ i < k + 1 ∧ cI y (nI i) then nI a else C0 j i) = if j = 10 ∧ i = k then nI a else if j = 10 ∧ i < k ∧ cI y (nI i) then nI a else C0 j i
        by_cases q1 : j = 10
        · by_cases q2 : i = k
          · rw [if_pos ⟨q1, by omega, by rw [q2]; exact z⟩, if_pos ⟨q1, q2⟩]
          · have n2 : ¬ (j = 10 ∧ i = k) := fun w => q2 w.2
            by_cases q3 : i < k ∧ cI y (nI i)
            · have p3 : j = 10 ∧ i < k + 1 ∧ cI y (nI i) := ⟨q1, by omega, q3.2⟩
              rw [if_pos p3, if_neg n2, if_pos ⟨q1, q3⟩]
            · have p3 : ¬ (j = 10 ∧ i < k + 1 ∧ cI y (nI i)) := fun w => q3 ⟨by have := w.2.1; omega, w.2.2⟩
              have p4 : ¬ (j = 10 ∧ i < k ∧ cI y (nI i)) := fun w => q3 w.2
              rw [if_neg p3, if_neg n2, if_neg p4]
        · have n1 : ∀ {R : Prop}, ¬ (j = 10 ∧ R) := fun w => q1 w.1
          rw [if_neg n1, if_neg n1, if_neg n1]
      · rw [if_neg z]; funext j i; unfold jnC
        by_cases q3 : j = 10 ∧ i < k ∧ cI y (nI i)
        · have p3 : j = 10 ∧ i < k + 1 ∧ cI y (nI i) := ⟨q3.1, by have := q3.2.1; omega, q3.2.2⟩
          rw [if_pos p3, if_pos q3]
        · have p3 : ¬ (j = 10 ∧ i < k + 1 ∧ cI y (nI i)) := fun w => q3 ⟨w.1, by
            rcases Nat.lt_or_ge i k with u | u
            · exact u
            · exact absurd w.2.2 (by rw [show i = k by have := w.2.1; omega]; exact z), w.2.2⟩
          rw [if_neg p3, if_neg q3]
    refine jm_iload_n d_B_join_2 rfl ?_
    refine jm_aload_n d_B_join_3 rfl ?_
    refine cr_get 1 0 d_B_join_4 f_B_42 hc rfl rfl rfl rfl (v := .int (C 1 0)) rfl ?_
    rw [e1]
    refine jm_icmp_ge 34 d_B_join_7 (by decide) (fun hb7 => ?_) (fun hb7 => ?_)
    · exact absurd hb7 (nI_ge (by omega) (by omega))
    · refine jm_iload_n d_B_join_10 rfl ?_
      refine jm_iload_n d_B_join_11 rfl ?_
      refine jm_callSp (As := [_, _]) d_B_join_12 l_B_227 sw_B_contains nv_B_contains rfl (Nat.le_of_ble_eq_true rfl) (by omega : 0 + 1 ≤ _) (k_B_contains _ _) ?_
      first | refine jm_bz_eq 28 d_B_join_15 (by decide) (fun hb15 => ?_) (fun hb15 => ?_) | refine jm_if_eq 28 d_B_join_15 (by decide) (fun hb15 => ?_) (fun hb15 => ?_)
      · refine jm_iincL (v := nI (k + 1)) d_B_join_28 rfl (by rw [nI_succ]; rfl) ?_
        refine jm_goto 2 d_B_join_31 (by decide) ?_
        first
          | exact ih (k + 1) (by omega) hc hf (by rw [stp, if_pos hb15])
          | exact ih (k + 1) (by omega) hc hf (by rw [stp, if_neg hb15])
      · refine jm_aload_n d_B_join_18 rfl ?_
        refine cr_get 78 0 d_B_join_19 f_B_11 hc rfl rfl rfl rfl (v := .ref (L 0 0)) rfl ?_
        refine jm_iload_n d_B_join_22 rfl ?_
        refine cr_ald 3 70 k (e := k) d_B_join_23 (by decide) rfl hc (show k < sz 1 0 by omega) rfl rfl rfl rfl (by have := hc.B.1; omega) (by decide) (v := .ref (L 1 k)) rfl ?_
        refine jm_aload_n d_B_join_24 rfl ?_
        refine cr_put 10 k (nI a) d_B_join_25 f_B_212 hc hf (show k < sz 1 0 by omega) rfl rfl rfl (by decide) (by decide) (by show (if nI a = -1 then Value.null else .ref (L 5 (nI a).toNatClampNeg)) = _; rw [if_neg (nI_m1 (by omega)), nI_clamp (by omega)]) rfl rfl (fun h hc hf => ?_)
        refine jm_iincL (v := nI (k + 1)) d_B_join_28 rfl (by rw [nI_succ]; rfl) ?_
        refine jm_goto 2 d_B_join_31 (by decide) ?_
        first
          | exact ih (k + 1) (by omega) hc hf (by rw [stp, if_pos hb15])
          | exact ih (k + 1) (by omega) hc hf (by rw [stp, if_neg hb15])
end
section
variable {Γ : jm_G} {d x : Nat} {L sz : Nat → Nat → Nat} {C : mS} {h : jm_H} {ρ : Nat → Nat}
theorem k_B_join {n a : Nat} {y : Int32} (hd : 1 ≤ d) (hn : C 1 0 = nI n) (hs : sz 1 0 = n) (h8 : n ≤ 8) (ha : a < 8) : cM Γ m_B_join d x [.ref x, .int y, .ref (L 5 a)] L sz C 0 0 (fun oc L' sz' C' => oc = .inl none ∧ L' = L ∧ sz' = sz ∧ C' = jnC C y a n) := by
  intro h ρ hc
  have hf : xt ρ h ρ h := xt.rf
  refine jm_entry (by decide +kernel) (List.forall_mem_cons.mpr ⟨rfl, List.forall_mem_cons.mpr ⟨rfl, List.forall_mem_cons.mpr ⟨rfl, fun _ h => nomatch h⟩⟩⟩) (Nat.le_of_ble_eq_true rfl) ?_
  show jm_W _ _ _ _ _ _ 0 [some (.ref x), some (.int y), some (.ref (L 5 a)), none] [] _
  refine jm_iconstL (v := nI 0) d_B_join_0 (by decide) ?_
  refine jm_istore_n d_B_join_1 (Nat.le_of_ble_eq_true rfl) ?_
  exact lp_B_join hd hn hs h8 ha n 0 (by omega) hc hf (by funext j i; unfold jnC; rw [if_neg (fun z => absurd z.2.1 (Nat.not_lt_zero _))])
end
