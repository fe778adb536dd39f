/-! CLASS AND REFERENCE: findParts. Written by wip/whole/gen/p83.py -/
section
variable {Γ : jm_G} {d : Nat} {h h0 : jm_H} {x : Nat} {L L0 : Nat → Nat → Nat} {ρ ρ0 : Nat → Nat} {sz sz0 : Nat → Nat → Nat} {C C0 S : mS} {n : Nat}
abbrev kL5 (L L' : Nat → Nat → Nat) : Prop := ∀ g i, g ≠ 5 → L' g i = L g i
theorem sw_c {nb nb' : Nat → Int32} {y : Int32} : ∀ k, (∀ i, i < k → nb i = nb' i) → swR nb y k = swR nb' y k
  | 0, _ => rfl
  | k + 1, hh => by rw [swR, swR, sw_c k (fun i hi => hh i (by omega)), hh k (by omega)]
theorem it_c {nb nb' : Nat → Int32} {y : Int32} (hh : ∀ i, i < n → nb i = nb' i) : ∀ i, itR nb n y i = itR nb' n y i
  | 0 => rfl
  | i + 1 => by
    show swR nb (itR nb n y i) n = swR nb' (itR nb' n y i) n
    rw [it_c hh i, sw_c n hh]
def FP (U C0 C : mS) (sz0 sz : Nat → Nat → Nat) (n : Nat) : Prop := (∀ j, j ≠ 10 → j ≠ 11 → j ≠ 12 → j ≠ 65 → C j = C0 j) ∧ (∀ i, i < n → C 10 i = U 10 i) ∧ (∀ g i, g ≠ 5 → sz g i = sz0 g i) ∧ (∀ q, q < 8 → (sz 5 q = 1 ↔ ∃ i, i < n ∧ U 10 i = nI q)) ∧ ∀ q, q < 8 → sz 5 q = 1 → C 11 q = U 11 q ∧ C 12 q = U 12 q ∧ C 65 q = 0
theorem lp_B_findParts (hd : 3 ≤ d) (h8 : n ≤ 8) (h9 : ∀ a, a < 8 → ∃ m, m < 256 ∧ S 9 a = nI m) (hN : ∀ x y, vnb S n x y → vnb S n y x ∧ x ≠ y ∧ y < n) (h10 : ∀ i, i < 8 → S 10 i = -1) (hn0 : C0 1 0 = nI n) (hs0 : sz0 1 0 = n) (h90 : ∀ i, i < n → C0 9 i = S 9 i) :
    ∀ j a, a + j = n → ∀ {h : jm_H} {ρ : Nat → Nat} {L sz : Nat → Nat → Nat} {C : mS} {rc rs : Nat} {w2 : Option Value}, j ≤ rc → 3 * j ≤ rs → co Γ h x L ρ sz C → xt ρ0 h0 ρ h → kL5 L0 L → FP (spF S n (MM S n) a) C0 C sz0 sz n →
      jm_W Γ m_B_findParts d rc rs (fun oc h' => ∃ L' ρ' sz' C', (oc = .inl none ∧ kL5 L0 L' ∧ FP (spF S n (MM S n) n) C0 C' sz0 sz' n) ∧ co Γ h' x L' ρ' sz' C' ∧ xt ρ0 h0 ρ' h') 2 [some (.ref x), some (.int (nI a)), w2] [] h := by
  intro j
  induction j with
  | zero =>
    intro a hk h ρ L sz C rc rs w2 hrc hrs hc hf hkL F
    have ek : a = n := by omega
    have e1 : C 1 0 = nI n := by rw [F.1 1 (by decide) (by decide) (by decide) (by decide), hn0]
    refine jm_iload_n d_B_findParts_2 rfl ?_
    refine jm_aload_n d_B_findParts_3 rfl ?_
    refine cr_get 1 0 d_B_findParts_4 f_B_42 hc rfl rfl rfl rfl (v := .int (C 1 0)) rfl ?_
    rw [e1]
    refine jm_icmp_ge 56 d_B_findParts_7 (by decide) (fun hb7 => ?_) (fun hb7 => ?_)
    · exact jm_vret d_B_findParts_56 rfl ⟨_, _, _, _, ⟨rfl, hkL, by rw [← ek]; exact (ek ▸ F)⟩, hc, hf⟩
    · exact absurd (nI_le (by omega) (by omega)) hb7
  | succ j ih =>
    intro a hk h ρ L sz C rc rs w2 hrc hrs hc hf hkL F
    have e1 : C 1 0 = nI n := by rw [F.1 1 (by decide) (by decide) (by decide) (by decide), hn0]
    have es : sz 1 0 = n := by rw [F.2.2.1 1 0 (by decide)]; exact hs0
    have e9 : ∀ i, i < n → C 9 i = S 9 i := fun i hi => by rw [F.1 9 (by decide) (by decide) (by decide) (by decide)]; exact h90 i hi
    have J := JJ_all h8 h9 hN h10 a (by omega)
    have ha1 : a < sz 1 0 := by omega
    rcases J.2.1 a (by omega) with z | ⟨q, z1, z2, z3, z4⟩
    · refine jm_iload_n d_B_findParts_2 rfl ?_
      refine jm_aload_n d_B_findParts_3 rfl ?_
      refine cr_get 1 0 d_B_findParts_4 f_B_42 hc rfl rfl rfl rfl (v := .int (C 1 0)) rfl ?_
      rw [e1]
      refine jm_icmp_ge 56 d_B_findParts_7 (by decide) (fun hb7 => ?_) (fun hb7 => ?_)
      · exact absurd hb7 (nI_ge (by omega) (by omega))
      · refine jm_aload_n d_B_findParts_10 rfl ?_
        refine cr_get 78 0 d_B_findParts_11 f_B_11 hc rfl rfl rfl rfl (v := .ref (L 0 0)) rfl ?_
        refine jm_iload_n d_B_findParts_14 rfl ?_
        refine cr_ald 3 70 a (e := a) d_B_findParts_15 (by decide) rfl hc (show a < sz 1 0 by omega) rfl rfl rfl rfl (by have := hc.B.1; omega) (by decide) (v := .ref (L 1 a)) rfl ?_
        refine cr_get 10 a d_B_findParts_16 f_B_212 hc (show a < sz 1 0 by omega) rfl rfl rfl (v := .null) (cE_nopart (by rw [F.2.1 a (by omega)]; exact z)) ?_
        refine jm_ifnonnullN d_B_findParts_19 ?_
        refine jm_aload_n d_B_findParts_22 rfl ?_
        refine jm_iload_n d_B_findParts_23 rfl ?_
        refine cr_callp (r := ("BargainTree", jm_F0, 9)) (As := [_]) d_B_findParts_24 l_B_254 iw_B_partOf ew_B_partOf rfl nv_B_partOf rfl (hc.1 1 0 rfl).1 (Nat.le_of_ble_eq_true rfl) (by omega : 1 + 1 ≤ _) (k_B_partOf (n := n) e1 es h8 (by omega) _) hc ?_
        have eM : itR (C 9) n (1 <<< (nI a &&& 31)) n = MM S n a := it_c e9 n
        rw [eM]
        obtain ⟨r, r1, r2, r3⟩ := (rtR_ix (S 9) (MM S n a) n).resolve_left (fun w => w.2 a (by omega) ((mem_all h8 h9 hN).2.1 a (by omega)))
        have emj : (mjR (C 9) (MM S n a) n).1 = nI r := by rw [mj_rt h8 (fun b hb => ⟨e9 b hb, h9 b (by omega)⟩), r2]
        refine jm_istore_n d_B_findParts_27 (Nat.le_of_ble_eq_true rfl) ?_
        refine jm_aload_n d_B_findParts_28 rfl ?_
        refine jm_iload_n d_B_findParts_29 rfl ?_
        refine jm_newobj (ci := 2) (N := 3) (dv := fun j => defaultValue (jm_Y2 j)) d_B_findParts_30 rfl c_B_217 n_P z_P jm_Y2 jm_yok2 (fun _ _ => rfl) (by omega) (by omega) (fun q hq9 => ?_)
        have hc := co_nw (kn := (2, 0)) (dv := fun j => defaultValue (jm_Y2 j)) hc hq9 6
        obtain ⟨hf, hq0⟩ := xt_nw (kn := (2, 0)) (dv := fun j => defaultValue (jm_Y2 j)) hf hq9 6
        have kq : (jm_new h q (2, 0) (fun j => defaultValue (jm_Y2 j))).1 q = some (2, 0) := if_pos rfl
        refine jm_dup d_B_findParts_33 rfl ?_
        refine jm_aload_n d_B_findParts_34 rfl ?_
        refine cr_get 78 0 d_B_findParts_35 f_B_11 hc rfl rfl rfl rfl (v := .ref (L 0 0)) rfl ?_
        refine jm_aload_n d_B_findParts_38 rfl ?_
        refine jm_iload_n d_B_findParts_39 rfl ?_
        refine jm_callVpX (r := ("BargainTree", jm_F0, 9)) (As := [_]) d_B_findParts_40 l_B_257 iw_B_mostJoined ew_B_mostJoined rfl nv_B_mostJoined rfl (hc.1 1 0 rfl).1 (Nat.le_of_ble_eq_true rfl) (by omega : 1 + 1 ≤ _) (k_B_mostJoined (n := n) e1 es h8 (by omega) _ _ _ hc) ?_
        rw [emj]
        refine cr_ald 3 70 r (e := r) d_B_findParts_43 (by decide) rfl hc (show r < sz 1 0 by omega) rfl rfl rfl rfl (by have := hc.B.1; omega) (by decide) (v := .ref (L 1 r)) rfl ?_
        refine jm_callI (As := [_]) d_B_findParts_44 rfl rfl rfl l_B_260 iw_P_init nv_P_init rfl (Nat.le_of_ble_eq_true rfl) (by omega : 1 + 1 ≤ _) (by omega) (by omega) (k_P_init (by omega) kq) (fun v h' hq' => ?_) (fun X h' hq' => by cases hq'.1)
        obtain ⟨e0, rfl⟩ := hq'
        cases e0
        have hc := co_wp (t := 2) (i := 0) (v := .ref (L 1 r)) (co_wp (t := 2) (i := 1) (v := .int 1) hc rl_eq) rl_eq
        have hf := xt_wp (t := 2) (i := 0) (v := .ref (L 1 r)) (xt_wp (t := 2) (i := 1) (v := .int 1) hf hq0) hq0
        have s5 : sz 5 a ≠ 1 := fun w => by
          obtain ⟨i, i1, i2⟩ := (F.2.2.2.1 a (by omega)).mp w
          rcases J.2.1 i i1 with y | ⟨q, y1, y2, y3, -⟩
          · rw [y] at i2; exact absurd i2.symm (nI_m1 (by omega))
          · have := (nI_eq (by omega) (by omega)).mp (y3.symm.trans i2); omega
        have hc := co_pt (p := a) (r := r) hc rl_eq kq (by simp [jm_set]) (by simp [jm_set]) (by simp [jm_set, jm_new]; rfl) (by omega) s5 (by omega) (fun i hi => by
          rw [F.2.1 i (by omega)]
          rcases J.2.1 i (by omega) with y | ⟨q, y1, y2, y3, -⟩
          · exact Or.inl y
          · refine Or.inr ?_; rw [y3, nI_clamp (by omega)]; omega)
        have hf := xt_rl (a := 40 + a) hf hq0
        have eq5 : lu L 5 a q 5 a = q := lu_eq
        have e1' : (mu (mu (mu C 11 a (nI r)) 12 a 1) 65 a 0) 1 0 = nI n := by rw [mu_row (by decide), mu_row (by decide), mu_row (by decide), e1]
        generalize (jm_set (jm_set (jm_new h q (2, 0) (fun j => defaultValue (jm_Y2 j))) 2 1 q (.int 1)) 2 0 q (.ref (L 1 r))) = H at hc hf ⊢
        rw [← eq5]
        generalize hLL : lu L 5 a q = L2 at hc ⊢
        have hk2 : kL5 L0 L2 := fun g i hg => by rw [← hLL]; exact (if_neg (fun w => hg w.1)).trans (hkL g i hg)
        have es' : lu sz 5 a 1 1 0 = n := es
        refine cr_call (r := ("BargainTree", jm_F0, 9)) (As := [_, _]) d_B_findParts_47 l_B_262 iw_B_join ew_B_join rfl nv_B_join rfl (hc.1 1 0 rfl).1 (Nat.le_of_ble_eq_true rfl) (by omega : 1 + 1 ≤ _) (Nat.zero_le _) (Nat.zero_le _) (k_B_join (a := a) (y := MM S n a) (by omega) e1' es' h8 (by omega)) hc hf (fun X L' sz' C' q => by cases q.1) (fun v L3 ρ3 sz3 C3 h3 hq3 hc3 hf3 _ => ?_)
        obtain ⟨e0, rfl, eS, eC⟩ := hq3
        cases e0
        refine jm_iincL (v := nI (a + 1)) d_B_findParts_50 rfl (by rw [nI_succ]; rfl) ?_
        refine jm_goto 2 d_B_findParts_53 (by decide) ?_
        refine ih (a + 1) (by omega) (by omega) (by omega) hc3 hf3 hk2 ?_
        have hU : spF S n (MM S n) (a + 1) = fpC (spF S n (MM S n) a) a (MM S n a) n := by rw [spF, if_neg (by rw [z]; decide)]
        rw [hU, eS, eC]
        have g10 : ∀ i, i < n → fpC (spF S n (MM S n) a) a (MM S n a) n 10 i = if mem S n a i then nI a else (spF S n (MM S n) a) 10 i := fun i hi => by
          unfold fpC mem; simp [hi]
        have g11 : ∀ i, fpC (spF S n (MM S n) a) a (MM S n a) n 11 i = if i = a then rtR (S 9) (MM S n a) n else (spF S n (MM S n) a) 11 i := fun i => by unfold fpC; rw [← J.1 9 (by decide) (by decide) (by decide)]; simp
        have g12 : ∀ i, fpC (spF S n (MM S n) a) a (MM S n a) n 12 i = if i = a then 1 else (spF S n (MM S n) a) 12 i := fun i => by unfold fpC; simp
        refine ⟨fun j q1 q2 q3 q4 => by rw [jnC_row q1, mu_row q4, mu_row q3, mu_row q2]; exact F.1 j q1 q2 q3 q4, fun i hi => ?_, fun g i hg => (if_neg (fun w => hg w.1)).trans (F.2.2.1 g i hg), fun q9 hq9 => ?_, fun q9 hq9 w => ?_⟩
        · rw [g10 i hi]
          have e10 : jnC (mu (mu (mu C 11 a (nI r)) 12 a 1) 65 a 0) (MM S n a) a n 10 i = if mem S n a i then nI a else C 10 i := by unfold jnC mem; simp [hi, mu]
          rw [e10, F.2.1 i hi]
        · by_cases y : q9 = a
          · rw [y]; refine ⟨fun _ => ⟨a, by omega, by rw [g10 a (by omega), if_pos ((mem_all h8 h9 hN).2.1 a (by omega))]⟩, fun _ => lu_eq⟩
          · rw [lu_ne y]
            refine (F.2.2.2.1 q9 hq9).trans ⟨fun ⟨i, i1, i2⟩ => ⟨i, i1, ?_⟩, fun ⟨i, i1, i2⟩ => ⟨i, i1, ?_⟩⟩
            · rw [g10 i i1]
              by_cases m : mem S n a i
              · exfalso
                rcases J.2.1 i i1 with u | ⟨q8, u1, u2, u3, u4⟩
                · rw [u] at i2; exact absurd i2.symm (nI_m1 (by omega))
                · have m' : mem S n q8 a := (mem_eq h8 h9 hN u2 i1 (by omega) u4).mpr ((mem_eq h8 h9 hN (by omega) i1 (by omega) m).mp ((mem_all h8 h9 hN).2.1 a (by omega)))
                  have := J.2.2.1 i q8 a i1 u2 u3 (by omega) m'
                  rw [z] at this; exact absurd this.symm (nI_m1 (by omega))
              · rw [if_neg m]; exact i2
            · rw [g10 i i1] at i2
              by_cases m : mem S n a i
              · rw [if_pos m] at i2; exact absurd ((nI_eq (by omega) (by omega)).mp i2).symm y
              · rw [if_neg m] at i2; exact i2
        · rw [g11, g12, jnC_row (by decide), jnC_row (by decide), jnC_row (by decide)]
          by_cases y : q9 = a
          · rw [if_pos y, if_pos y, y, r2]; simp [mu]
          · rw [if_neg y, if_neg y]
            rw [lu_ne y] at w
            have := F.2.2.2.2 q9 hq9 w
            simp [mu, y]; exact this
    · refine jm_iload_n d_B_findParts_2 rfl ?_
      refine jm_aload_n d_B_findParts_3 rfl ?_
      refine cr_get 1 0 d_B_findParts_4 f_B_42 hc rfl rfl rfl rfl (v := .int (C 1 0)) rfl ?_
      rw [e1]
      refine jm_icmp_ge 56 d_B_findParts_7 (by decide) (fun hb7 => ?_) (fun hb7 => ?_)
      · exact absurd hb7 (nI_ge (by omega) (by omega))
      · refine jm_aload_n d_B_findParts_10 rfl ?_
        refine cr_get 78 0 d_B_findParts_11 f_B_11 hc rfl rfl rfl rfl (v := .ref (L 0 0)) rfl ?_
        refine jm_iload_n d_B_findParts_14 rfl ?_
        refine cr_ald 3 70 a (e := a) d_B_findParts_15 (by decide) rfl hc (show a < sz 1 0 by omega) rfl rfl rfl rfl (by have := hc.B.1; omega) (by decide) (v := .ref (L 1 a)) rfl ?_
        refine cr_get 10 a d_B_findParts_16 f_B_212 hc (show a < sz 1 0 by omega) rfl rfl rfl (v := .ref (L 5 q)) (cE_part (by rw [F.2.1 a (by omega)]; exact z3) (by omega)) ?_
        refine jm_ifnonnull 50 d_B_findParts_19 (by decide) ?_
        refine jm_iincL (v := nI (a + 1)) d_B_findParts_50 rfl (by rw [nI_succ]; rfl) ?_
        refine jm_goto 2 d_B_findParts_53 (by decide) ?_
        refine ih (a + 1) (by omega) (by omega) (by omega) hc hf hkL ?_
        rw [spF, if_pos (by rw [z3]; exact nI_pos' (by omega))]; exact F
end
section
variable {Γ : jm_G} {d x : Nat} {L sz : Nat → Nat → Nat} {C S : mS} {h : jm_H} {ρ : Nat → Nat} {n : Nat}
theorem k_B_findParts (hd : 3 ≤ d) (h8 : n ≤ 8) (h9 : ∀ a, a < 8 → ∃ m, m < 256 ∧ S 9 a = nI m) (hN : ∀ x y, vnb S n x y → vnb S n y x ∧ x ≠ y ∧ y < n) (h10 : ∀ i, i < 8 → S 10 i = -1) (hn0 : C 1 0 = nI n) (hs0 : sz 1 0 = n) (h90 : ∀ i, i < n → C 9 i = S 9 i) (h10C : ∀ i, i < n → C 10 i = -1) (h5 : ∀ p, sz 5 p ≠ 1) : cM Γ m_B_findParts d x [.ref x] L sz C 8 24 (fun oc L' sz' C' => oc = .inl none ∧ kL5 L L' ∧ FP (spF S n (MM S n) n) C C' sz sz' n) := by
  intro h ρ hc
  have hf : xt ρ h ρ h := xt.rf
  refine jm_entry (by decide +kernel) (List.forall_mem_cons.mpr ⟨rfl, fun _ h => nomatch h⟩) (Nat.le_of_ble_eq_true rfl) ?_
  show jm_W _ _ _ _ _ _ 0 [some (.ref x), none, none] [] _
  refine jm_iconstL (v := nI 0) d_B_findParts_0 (by decide) ?_
  refine jm_istore_n d_B_findParts_1 (Nat.le_of_ble_eq_true rfl) ?_
  refine lp_B_findParts hd h8 h9 hN h10 hn0 hs0 h90 n 0 (by omega) (by omega) (by omega) hc hf (fun _ _ _ => rfl) ⟨fun _ _ _ _ _ => rfl, fun i hi => by rw [h10C i hi]; exact (h10 i (by omega)).symm, fun _ _ _ => rfl, fun q hq => ⟨fun z => absurd z (h5 q), fun ⟨i, i1, i2⟩ => by
    have e : S 10 i = nI q := i2
    rw [h10 i (by omega)] at e; exact absurd e.symm (nI_m1 (by omega))⟩, fun q _ z => absurd z (h5 q)⟩
end
