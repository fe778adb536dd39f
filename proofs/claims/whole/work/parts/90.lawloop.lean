/-! THE LAW: its loop, and how it begins. Written by wip/whole/gen/p90.py -/
section
variable {Γ : jm_G} {b o x m ln : Nat} {xs : Nat → Int32}
theorem lp_law (hE : eInj Γ) (hln : ln ≤ 3072) : ∀ f i K, ln ≤ i + 6 * f + 5 → i ≤ 3078 → K + f < 2 ^ 29 → ∀ {h : jm_H} {rc rs : Nat} {u5 u6 : Option Value}, 104 * f ≤ rc → 2544 * f ≤ rs → LI Γ b o x m ln xs K h → jm_W Γ m_W_law 12 rc rs (fun oc _ => oc = .inl (some (.int 1))) 23 [some (.ref b), some (.ref x), some (.ref m), some (.ref o), some (.int (nI i)), u5, u6] [] h := by
  intro f
  induction f with
  | zero =>
    intro i K h1 h2 h3 h rc rs u5 u6 hrc hrs H
    obtain ⟨_, _, _, _, _, _, _, _, _, _, _, _, _, _, _, _, hb, _, hxs⟩ := id H
    refine jm_iload d_W_law_23 rfl ?_
    refine jm_aload_n d_W_law_25 rfl ?_
    refine jm_slen d_W_law_26 hb ?_
    refine jm_bipushL (v := 6) d_W_law_27 (by decide) ?_
    refine jm_isub d_W_law_29 ?_
    refine jm_icmp_gt 842 d_W_law_30 (by decide) (fun _ => ?_) (fun q => absurd ((sub6 (by omega) (by omega)).mp q) (by omega))
    refine jm_iconstL (v := 1) d_W_law_842 (by decide) ?_
    exact jm_zret d_W_law_843 rfl rfl rfl
  | succ f ih =>
    intro i K h1 h2 h3 h rc rs u5 u6 hrc hrs H
    obtain ⟨_, _, _, _, _, _, _, _, _, _, _, _, _, _, _, _, hb, _, hxs⟩ := id H
    refine jm_iload d_W_law_23 rfl ?_
    refine jm_aload_n d_W_law_25 rfl ?_
    refine jm_slen d_W_law_26 hb ?_
    refine jm_bipushL (v := 6) d_W_law_27 (by decide) ?_
    refine jm_isub d_W_law_29 ?_
    refine jm_icmp_gt 842 d_W_law_30 (by decide) (fun _ => ?_) (fun q => ?_)
    · refine jm_iconstL (v := 1) d_W_law_842 (by decide) ?_
      exact jm_zret d_W_law_843 rfl rfl rfl
    · have hi6 : i + 6 ≤ ln := (sub6 (by omega) (by omega)).mp q
      have kk : ∀ h' u5 u6, LI Γ b o x m ln xs (K + 1) h' → jm_W Γ m_W_law 12 (rc - 104) (rs - 2544) (fun oc _ => oc = .inl (some (.int 1))) 836 [some (.ref b), some (.ref x), some (.ref m), some (.ref o), some (.int (nI i)), u5, u6] [] h' := fun h' u5 u6 H' => by
        refine jm_iincL (v := nI (i + 6)) d_W_law_836 rfl (by rw [← nI_add]; rfl) ?_
        refine jm_goto 23 d_W_law_839 (by decide) ?_
        exact ih (i + 6) (K + 1) (by omega) (by omega) (by omega) (by omega) (by omega) H'
      refine jm_aload_n d_W_law_33 rfl ?_
      refine jm_iload d_W_law_34 rfl ?_
      refine jm_sload d_W_law_36 hb (vp_in_nI (show i < ln by omega) (by omega)) ?_
      rw [nI_clamp (show i < 2 ^ 31 by omega), hxs i (by omega)]
      refine jm_bipushL (v := 15) d_W_law_37 (by decide) ?_
      refine jm_iand d_W_law_39 ?_
      obtain ⟨j, hj, e⟩ := and15 (xs i)
      rw [e]
      have hj' : j = 0 ∨ j = 1 ∨ j = 2 ∨ j = 3 ∨ j = 4 ∨ j = 5 ∨ j = 6 ∨ j = 7 ∨ j = 8 ∨ j = 9 ∨ j = 10 ∨ j = 11 ∨ j = 12 ∨ j = 13 ∨ j = 14 ∨ j = 15 := by omega
      rcases hj' with rfl | rfl | rfl | rfl | rfl | rfl | rfl | rfl | rfl | rfl | rfl | rfl | rfl | rfl | rfl | rfl
      · exact jm_tableIn 120 d_W_law_40 (by decide) (by decide) rfl (by decide) (case_agent (Nat.le_refl _) hE hi6 hln (by omega) (by omega) (by omega) H kk)
      · exact jm_tableIn 176 d_W_law_40 (by decide) (by decide) rfl (by decide) (case_own (Nat.le_refl _) hE hi6 hln (by omega) (by omega) (by omega) H kk)
      · exact jm_tableIn 236 d_W_law_40 (by decide) (by decide) rfl (by decide) (case_pair (Nat.le_refl _) hE hi6 hln (by omega) (by omega) (by omega) H kk)
      · exact jm_tableIn 304 d_W_law_40 (by decide) (by decide) rfl (by decide) (case_cost (Nat.le_refl _) hE hi6 hln (by omega) (by omega) (by omega) H kk)
      · exact jm_tableIn 388 d_W_law_40 (by decide) (by decide) rfl (by decide) (case_start (Nat.le_refl _) hE hi6 hln (by omega) (by omega) (by omega) H kk)
      · exact jm_tableIn 432 d_W_law_40 (by decide) (by decide) rfl (by decide) (case_letter (Nat.le_refl _) hE hi6 hln (by omega) (by omega) (by omega) H kk)
      · exact jm_tableIn 500 d_W_law_40 (by decide) (by decide) rfl (by decide) (case_told (Nat.le_refl _) hE hi6 hln (by omega) (by omega) (by omega) H kk)
      · exact jm_tableIn 537 d_W_law_40 (by decide) (by decide) rfl (by decide) (case_again (Nat.le_refl _) hE hi6 hln (by omega) (by omega) (by omega) H kk)
      · exact jm_tableIn 593 d_W_law_40 (by decide) (by decide) rfl (by decide) (case_change (Nat.le_refl _) hE hi6 hln (by omega) (by omega) (by omega) H kk)
      · exact jm_tableIn 697 d_W_law_40 (by decide) (by decide) rfl (by decide) (case_done (Nat.le_refl _) hE hi6 hln (by omega) (by omega) (by omega) H kk)
      · exact jm_tableIn 710 d_W_law_40 (by decide) (by decide) rfl (by decide) (case_value (Nat.le_refl _) hE hi6 hln (by omega) (by omega) (by omega) H kk)
      · exact jm_tableIn 735 d_W_law_40 (by decide) (by decide) rfl (by decide) (case_total (Nat.le_refl _) hE hi6 hln (by omega) (by omega) (by omega) H kk)
      · exact jm_tableIn 748 d_W_law_40 (by decide) (by decide) rfl (by decide) (case_parent (Nat.le_refl _) hE hi6 hln (by omega) (by omega) (by omega) H kk)
      · exact jm_tableIn 773 d_W_law_40 (by decide) (by decide) rfl (by decide) (case_separator (Nat.le_refl _) hE hi6 hln (by omega) (by omega) (by omega) H kk)
      · exact jm_tableIn 798 d_W_law_40 (by decide) (by decide) rfl (by decide) (case_entries (Nat.le_refl _) hE hi6 hln (by omega) (by omega) (by omega) H kk)
      · exact jm_tableIn 823 d_W_law_40 (by decide) (by decide) rfl (by decide) (case_tables (Nat.le_refl _) hE hi6 hln (by omega) (by omega) (by omega) H kk)
end
section
variable {Γ : jm_G} {b ln : Nat} {xs : Nat → Int32} {h0 : jm_H}
def C0 : mS := mu (fun _ _ => 0) 60 0 1
theorem mS0_0 {j i : Nat} (h1 : j ≠ 10) (h2 : j ≠ 16) (h3 : j ≠ 19) (h4 : j ≠ 31) : mS0 j i = 0 := by simp [mS0, rsR, mZ, h1, h2, h3, h4]
theorem INV_ini : INV mS0 C0 0 0 0 1 (fun _ _ => 0) := by
  have z : ∀ j i, j ≠ 10 → j ≠ 16 → j ≠ 19 → j ≠ 31 → mS0 j i = 0 := fun j i h1 h2 h3 h4 => mS0_0 h1 h2 h3 h4
  have zn : ∀ j i c, j ≠ 10 → j ≠ 16 → j ≠ 19 → j ≠ 31 → nn mS0 j i c := fun j i c h1 h2 h3 h4 => by
    unfold nn N; rw [z j i h1 h2 h3 h4]; exact ⟨rfl, Nat.zero_le _⟩
  have zN : ∀ j i, j ≠ 10 → j ≠ 16 → j ≠ 19 → j ≠ 31 → N mS0 j i = 0 := fun j i h1 h2 h3 h4 => by
    unfold N; rw [z j i h1 h2 h3 h4]; rfl
  refine ⟨⟨⟨rfl, by decide, rfl, by decide, rfl, by decide, Or.inl rfl⟩, fun a _ => zn 3 a 4 (by decide) (by decide) (by decide) (by decide), fun a ha => absurd ha (Nat.not_lt_zero _), fun p hp => absurd hp (Nat.not_lt_zero _), fun i _ => ⟨zn 4 i _ (by decide) (by decide) (by decide) (by decide), fun _ => by rw [zN 4 i (by decide) (by decide) (by decide) (by decide)]; exact Nat.zero_le _⟩, fun i _ => ⟨zn 8 i _ (by decide) (by decide) (by decide) (by decide), fun _ => by rw [zN 8 i (by decide) (by decide) (by decide) (by decide)]; exact Nat.zero_le _⟩, fun i _ => zn 26 i _ (by decide) (by decide) (by decide) (by decide), fun a _ => ⟨0, by decide, z 9 a (by decide) (by decide) (by decide) (by decide)⟩, fun x y q => absurd q.1 (Nat.not_lt_zero _), fun a ha => ?_, fun a k ha => absurd ha (Nat.not_lt_zero _), by decide⟩, ⟨⟨rfl, rfl, rfl, rfl, rfl, rfl, rfl, rfl⟩, fun a ha => absurd ha (Nat.not_lt_zero _), fun a ha => absurd ha (Nat.not_lt_zero _), fun a ha => absurd ha (Nat.not_lt_zero _), fun a ha => absurd ha (Nat.not_lt_zero _), fun a ha => absurd ha (Nat.not_lt_zero _), fun i hi => absurd hi (by omega), fun p hp => absurd hp (Nat.not_lt_zero _), ⟨fun a q ha => absurd ha (Nat.not_lt_zero _), fun q _ e => absurd (show (0 : Nat) = 1 from e) (by decide)⟩, fun k hk => absurd hk (Nat.not_lt_zero _)⟩, Or.inl ⟨rfl, rfl, fun _ _ _ => rfl, fun a _ => z 9 a (by decide) (by decide) (by decide) (by decide), fun i _ => z 4 i (by decide) (by decide) (by decide) (by decide), fun i _ => z 8 i (by decide) (by decide) (by decide) (by decide), fun _ => rfl, fun _ e => absurd (show (0 : Nat) = 1 from e) (by decide)⟩⟩
  refine ⟨Or.inl (z 13 a (by decide) (by decide) (by decide) (by decide)), Or.inl (z 14 a (by decide) (by decide) (by decide) (by decide)), Or.inl (z 15 a (by decide) (by decide) (by decide) (by decide)), Or.inl (by simp [mS0, rsR, mZ, ha]), Or.inl (by simp [mS0, rsR, mZ, ha]), zn 21 a _ (by decide) (by decide) (by decide) (by decide), zn 12 a _ (by decide) (by decide) (by decide) (by decide), zn 28 a _ (by decide) (by decide) (by decide) (by decide), zn 29 a _ (by decide) (by decide) (by decide) (by decide), zn 23 a _ (by decide) (by decide) (by decide) (by decide), zn 23 (8 + a) _ (by decide) (by decide) (by decide) (by decide)⟩
def L00 (q0 q1 q2 q3 : Nat) : Nat → Nat → Nat := fun g i => if g = 0 then (if i = 0 then q0 else if i = 1 then q1 else if i = 2 then q2 else q3) else 0
def R00 (x q0 q1 q2 q3 : Nat) : Nat → Nat := fun p => if p = x then 1 else if p = q0 then 2 else if p = q1 then 3 else if p = q2 then 4 else if p = q3 then 5 else 6
theorem co_ini {x q0 q1 q2 q3 : Nat} {h : jm_H} (n0 : q0 ≠ x) (n1 : q1 ≠ x) (n2 : q2 ≠ x) (n3 : q3 ≠ x) (n10 : q1 ≠ q0) (n20 : q2 ≠ q0) (n30 : q3 ≠ q0) (n21 : q2 ≠ q1) (n31 : q3 ≠ q1) (n32 : q3 ≠ q2)
    (kx : h.1 x = some (0, 0)) (k0 : h.1 q0 = some (103, 8)) (k1 : h.1 q1 = some (104, 12)) (k2 : h.1 q2 = some (105, 20)) (k3 : h.1 q3 = some (100, 8))
    (f0 : h.2 0 0 x = .ref q0) (f1 : h.2 0 1 x = .int 0) (f2 : h.2 0 2 x = .ref q1) (f3 : h.2 0 3 x = .int 0) (f4 : h.2 0 4 x = .ref q2) (f5 : h.2 0 5 x = .int 0) (f6 : h.2 0 6 x = .ref q3) (f7 : h.2 0 7 x = .int 1) (f8 : h.2 0 8 x = .int 0) (fz : ∀ i, i < 8 → h.2 100 i q3 = .int 0) :
    co Γ h x (L00 q0 q1 q2 q3) (R00 x q0 q1 q2 q3) (fun _ _ => 0) C0 := by
  have rx : R00 x q0 q1 q2 q3 x = 1 := by simp [R00]
  have r0 : R00 x q0 q1 q2 q3 q0 = 2 := by simp [R00, n0]
  have r1 : R00 x q0 q1 q2 q3 q1 = 3 := by simp [R00, n1, n10]
  have r2 : R00 x q0 q1 q2 q3 q2 = 4 := by simp [R00, n2, n20, n21]
  have r3 : R00 x q0 q1 q2 q3 q3 = 5 := by simp [R00, n3, n30, n31, n32]
  refine ⟨fun r i hv => ?_, ⟨k0, r0, k1, r1, k2, r2, fun a ha => absurd ha (Nat.not_lt_zero _)⟩, fun a ha => absurd ha (Nat.not_lt_zero _), fun i hv => absurd hv.1 (Nat.not_lt_zero _), fun k hk => absurd hk (Nat.not_lt_zero _), ⟨by decide, by decide, by decide, fun _ => Nat.zero_le _⟩⟩
  unfold cV at hv
  split at hv
  all_goals first
    | exact absurd hv (Nat.not_lt_zero _)
    | exact absurd hv.1 (Nat.not_lt_zero _)
    | exact absurd (show (0 : Nat) = 1 from hv.2) (by decide)
    | exact absurd hv (by omega)
    | exact hv.elim
    | (subst hv; exact ⟨kx, rx, f1⟩)
    | (subst hv; exact ⟨kx, rx, f3⟩)
    | (subst hv; exact ⟨kx, rx, f8⟩)
    | (subst hv; exact ⟨kx, rx, f5⟩)
    | (subst hv; exact ⟨kx, rx, f7⟩)
    | (subst hv; exact ⟨kx, rx, f0⟩)
    | (subst hv; exact ⟨kx, rx, f2⟩)
    | (subst hv; exact ⟨kx, rx, f4⟩)
    | (subst hv; exact ⟨kx, rx, f6⟩)
    | exact ⟨k3, r3, fz i hv⟩
theorem dv6 : ∀ j, j < 42 → defaultValue (jm_Y6 j) = if mo_len j = 0 then .int 0 else .null := fun j hj => by
  have hj' : j = 0 ∨ j = 1 ∨ j = 2 ∨ j = 3 ∨ j = 4 ∨ j = 5 ∨ j = 6 ∨ j = 7 ∨ j = 8 ∨ j = 9 ∨ j = 10 ∨ j = 11 ∨ j = 12 ∨ j = 13 ∨ j = 14 ∨ j = 15 ∨ j = 16 ∨ j = 17 ∨ j = 18 ∨ j = 19 ∨ j = 20 ∨ j = 21 ∨ j = 22 ∨ j = 23 ∨ j = 24 ∨ j = 25 ∨ j = 26 ∨ j = 27 ∨ j = 28 ∨ j = 29 ∨ j = 30 ∨ j = 31 ∨ j = 32 ∨ j = 33 ∨ j = 34 ∨ j = 35 ∨ j = 36 ∨ j = 37 ∨ j = 38 ∨ j = 39 ∨ j = 40 ∨ j = 41 := by omega
  rcases hj' with rfl | rfl | rfl | rfl | rfl | rfl | rfl | rfl | rfl | rfl | rfl | rfl | rfl | rfl | rfl | rfl | rfl | rfl | rfl | rfl | rfl | rfl | rfl | rfl | rfl | rfl | rfl | rfl | rfl | rfl | rfl | rfl | rfl | rfl | rfl | rfl | rfl | rfl | rfl | rfl | rfl | rfl <;> rfl
theorem k_law (hE : eInj Γ) (hln : ln ≤ 3072) (hb : h0.1 b = some (150, ln)) (hxs : ∀ i, i < ln → h0.2 100 i b = .int (xs i)) : jm_W Γ m_W_law 12 60000 1400000 (fun oc _ => oc = .inl (some (.int 1))) 0 [some (.ref b), none, none, none, none, none, none] [] h0 := by
  refine jm_newobj (ci := 0) (N := 9) (dv := fun j => defaultValue (jm_Y0 j)) d_W_law_0 rfl c_W_8 n_B z_B jm_Y0 jm_yok0 (fun _ _ => rfl) (by decide) (by decide) (fun x hx => ?_)
  have kx0 : (jm_new h0 x (0, 0) (fun j => defaultValue (jm_Y0 j))).1 x = some (0, 0) := if_pos rfl
  refine jm_dup d_W_law_3 rfl ?_
  refine jm_callI (As := []) d_W_law_4 rfl rfl rfl l_W_45 iw_B_init nv_B_init rfl (Nat.le_of_ble_eq_true rfl) (by decide : 1 + 1 ≤ 12) (by decide) (by decide) (k_B_init (Nat.le_refl _) kx0) (fun v h' hq' => ?_) (fun X h' hq' => by cases hq'.1)
  obtain ⟨e0, q0, q1, q2, q3, a0, a1, a2, a3, e1⟩ := hq'
  cases e0
  have bx : b ≠ x := fun e => by rw [e, hx] at hb; cases hb
  have n0 : q0 ≠ x := fun e => by rw [e, kx0] at a0; cases a0
  simp only [jm_set, jm_new] at a0 a1 a2 a3
  have n1 : q1 ≠ x := fun e => by simp [e, Ne.symm n0] at a1
  have n10 : q1 ≠ q0 := fun e => by simp [e] at a1
  have n2 : q2 ≠ x := fun e => by simp [e, Ne.symm n0, Ne.symm n1] at a2
  have n20 : q2 ≠ q0 := fun e => by simp [e, Ne.symm n10] at a2
  have n21 : q2 ≠ q1 := fun e => by simp [e] at a2
  have n3 : q3 ≠ x := fun e => by simp [e, Ne.symm n0, Ne.symm n1, Ne.symm n2] at a3
  have n30 : q3 ≠ q0 := fun e => by simp [e, Ne.symm n10, Ne.symm n20] at a3
  have n31 : q3 ≠ q1 := fun e => by simp [e, Ne.symm n21] at a3
  have n32 : q3 ≠ q2 := fun e => by simp [e] at a3
  have b0 : b ≠ q0 := fun e => by simp [← e, bx, hb] at a0
  have b1 : b ≠ q1 := fun e => by simp [← e, bx, b0, hb] at a1
  have b2 : b ≠ q2 := fun e => by simp [← e, bx, b0, b1, hb] at a2
  have b3 : b ≠ q3 := fun e => by simp [← e, bx, b0, b1, b2, hb] at a3
  have kx : h'.1 x = some (0, 0) := by rw [e1]; simp [jm_set, jm_new, Ne.symm n0, Ne.symm n1, Ne.symm n2, Ne.symm n3]
  have hb' : h'.1 b = some (150, ln) := by rw [e1]; simp [jm_set, jm_new, b0, b1, b2, b3, bx, hb]
  have hxs' : ∀ i, i < ln → h'.2 100 i b = .int (xs i) := fun i hi => by rw [e1]; simp [jm_set, jm_new, b0, b1, b2, b3, bx, hxs i hi]
  have hc : co Γ h' x (L00 q0 q1 q2 q3) (R00 x q0 q1 q2 q3) (fun _ _ => 0) C0 := by
    refine co_ini n0 n1 n2 n3 n10 n20 n30 n21 n31 n32 kx ?_ ?_ ?_ ?_ ?_ ?_ ?_ ?_ ?_ ?_ ?_ ?_ ?_ ?_
    · rw [e1]; simp [jm_set, jm_new, Ne.symm n10, Ne.symm n20, Ne.symm n30]
    · rw [e1]; simp [jm_set, jm_new, Ne.symm n21, Ne.symm n31]
    · rw [e1]; simp [jm_set, jm_new, Ne.symm n32]
    · rw [e1]; simp [jm_set, jm_new]
    · rw [e1]; simp [jm_set, jm_new, Ne.symm n0, Ne.symm n1, Ne.symm n2, Ne.symm n3]
    · rw [e1]; simp [jm_set, jm_new, Ne.symm n0, Ne.symm n1, Ne.symm n2, Ne.symm n3]; rfl
    · rw [e1]; simp [jm_set, jm_new, Ne.symm n0, Ne.symm n1, Ne.symm n2, Ne.symm n3]
    · rw [e1]; simp [jm_set, jm_new, Ne.symm n0, Ne.symm n1, Ne.symm n2, Ne.symm n3]; rfl
    · rw [e1]; simp [jm_set, jm_new, Ne.symm n0, Ne.symm n1, Ne.symm n2, Ne.symm n3]
    · rw [e1]; simp [jm_set, jm_new, Ne.symm n0, Ne.symm n1, Ne.symm n2, Ne.symm n3]; rfl
    · rw [e1]; simp [jm_set, jm_new, Ne.symm n0, Ne.symm n1, Ne.symm n2, Ne.symm n3]
    · rw [e1]; simp [jm_set, jm_new, Ne.symm n0, Ne.symm n1, Ne.symm n2, Ne.symm n3]
    · rw [e1]; simp [jm_set, jm_new, Ne.symm n0, Ne.symm n1, Ne.symm n2, Ne.symm n3]; rfl
    · intro i hi; rw [e1]; simp [jm_set, jm_new]
  have r6 : ∀ p, h'.1 p = none → R00 x q0 q1 q2 q3 p = 6 := fun p hp => by
    rw [e1] at hp
    have s0 : p ≠ x := fun e => by simp [jm_set, jm_new, e, Ne.symm n0, Ne.symm n1, Ne.symm n2, Ne.symm n3] at hp
    have s1 : p ≠ q0 := fun e => by simp [jm_set, jm_new, e, Ne.symm n10, Ne.symm n20, Ne.symm n30] at hp
    have s2 : p ≠ q1 := fun e => by simp [jm_set, jm_new, e, Ne.symm n21, Ne.symm n31] at hp
    have s3 : p ≠ q2 := fun e => by simp [jm_set, jm_new, e, Ne.symm n32] at hp
    have s4 : p ≠ q3 := fun e => by simp [jm_set, jm_new, e] at hp
    simp [R00, s0, s1, s2, s3, s4]
  have rb : R00 x q0 q1 q2 q3 b = 6 := by simp [R00, bx, b0, b1, b2, b3]
  clear e1 a0 a1 a2 a3
  generalize hR : R00 x q0 q1 q2 q3 = ρ at *
  generalize hL : L00 q0 q1 q2 q3 = L at *
  refine jm_astore_n d_W_law_7 (Nat.le_of_ble_eq_true rfl) ?_
  refine jm_newobj (ci := 6) (N := 42) (dv := fun j => if mo_len j = 0 then .int 0 else .null) d_W_law_8 rfl c_W_46 n_M z_M jm_Y6 jm_yok6 dv6 (by decide) (by decide) (fun m hm => ?_)
  refine jm_dup d_W_law_11 rfl ?_
  refine jm_callI (As := []) d_W_law_12 rfl rfl rfl l_W_48 iw_M_init nv_M_init rfl (Nat.le_of_ble_eq_true rfl) (by decide : 1 + 1 ≤ 12) (by decide) (by decide) (k_M_init (m := m) (Nat.le_refl _) (if_pos rfl) (fun j => if_pos rfl)) (fun v h2 hq2 => ?_) (fun X h2 hq2 => by cases hq2.1)
  obtain ⟨e0, ar, hmo, har, hk⟩ := hq2
  cases e0
  have old : ∀ p, h'.1 p ≠ none → p ≠ m ∧ h2.1 p = h'.1 p ∧ ∀ t i, h2.2 t i p = h'.2 t i p := fun p hp => by
    have ne : p ≠ m := fun e => hp (by rw [e]; exact hm)
    have g := hk p ne (by show (if p = m then _ else h'.1 p) ≠ none; rw [if_neg ne]; exact hp)
    refine ⟨ne, g.1.trans (if_neg ne), fun t i => (g.2 t i).trans (if_neg ne)⟩
  have hc2 : co Γ h2 x L ρ (fun _ _ => 0) C0 := co_mv hc (fun p hp _ => ⟨(old p hp).2.1, rfl, (old p hp).2.2⟩)
  have m6 : ρ m = 6 := r6 m hm
  have a6 : ∀ j, j < 42 → 0 < mo_len j → ρ (ar j) = 6 := fun j hj hl => r6 _ (by
    have g : (if ar j = m then some (6, 0) else h'.1 (ar j)) = none := har j hj hl
    by_cases e : ar j = m
    · rw [if_pos e] at g; cases g
    · rw [if_neg e] at g; exact g)
  have hb2 : h2.1 b = some (150, ln) := (old b (by rw [hb']; exact fun e => by cases e)).2.1.trans hb'
  have hxs2 : ∀ i, i < ln → h2.2 100 i b = .int (xs i) := fun i hi => ((old b (by rw [hb']; exact fun e => by cases e)).2.2 _ _).trans (hxs' i hi)
  refine jm_astore_n d_W_law_15 (Nat.le_of_ble_eq_true rfl) ?_
  refine jm_iconstL (v := nI 1) d_W_law_16 (by decide) ?_
  refine jm_newarray 2 d_W_law_17 (by decide) ac_long rfl (fun U cA => va_nm_long) (by decide) (by decide) (by decide) (by decide) (fun o ho => ?_)
  refine jm_astore_n d_W_law_19 (Nat.le_of_ble_eq_true rfl) ?_
  refine jm_iconstL (v := nI 0) d_W_law_20 (by decide) ?_
  refine jm_istore d_W_law_21 (Nat.le_of_ble_eq_true rfl) ?_
  have nw : ∀ p, h2.1 p ≠ none → p ≠ o := fun p hp e => hp (by rw [e]; exact ho)
  have o6 : ρ o = 6 := r6 o (by
    by_cases e : h'.1 o = none
    · exact e
    · exact absurd ((old o e).2.1.symm.trans ho) e)
  generalize hh3 : jm_new h2 o (100 + 2, (nI 1).toNatClampNeg) (fun _ => defaultValue (jm_ty 2)) = h3
  have k3 : ∀ p, h2.1 p ≠ none → h3.1 p = h2.1 p ∧ ∀ t i, h3.2 t i p = h2.2 t i p := fun p hp => by
    rw [← hh3]; exact ⟨if_neg (nw p hp), fun t i => if_neg (nw p hp)⟩
  have ko : h3.1 o = some (102, 1) := by rw [← hh3]; exact if_pos rfl
  have hmo3 : mo h3 m ar mS0 := by
    obtain ⟨g1, g2, g3, g4⟩ := hmo
    have gm := k3 m (by rw [g1]; exact fun e => by cases e)
    refine ⟨gm.1.trans g1, fun j hj hl => (gm.2 _ _).trans (g2 j hj hl), fun j hj hl => ?_, g4⟩
    obtain ⟨f1, f2, f3⟩ := g3 j hj hl
    have ga := k3 (ar j) (by rw [f2]; exact fun e => by cases e)
    exact ⟨(gm.2 _ _).trans f1, ga.1.trans f2, fun i hi => (ga.2 _ _).trans (f3 i hi)⟩
  have gb := k3 b (by rw [hb2]; exact fun e => by cases e)
  have H : LI Γ b o x m ln xs 1 h3 := ⟨L, ρ, fun _ _ => 0, C0, ar, mS0, 0, 0, 0, 1, co_mv hc2 (fun p hp _ => ⟨(k3 p hp).1, rfl, (k3 p hp).2⟩), hmo3, INV_ini, ⟨by decide, by decide⟩, ⟨m6, a6⟩, ⟨ko, o6⟩, gb.1.trans hb2, rb, fun i hi => (gb.2 _ _).trans (hxs2 i hi)⟩
  exact lp_law hE hln 512 0 1 (by omega) (by decide) (by decide) (by decide) (by decide) H
end
