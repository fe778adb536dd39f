/-! THE REFERENCE: the token is held. Written by wip/whole/gen/p36.py -/
section
variable {Γ : jm_G} {d m : Nat} {ar : Nat → Nat} {S : mS} {h : jm_H}
abbrev gbR (nb : Nat → Int32) (a b : Int32) : Prop := ¬ 0 ≤ b ∨ (bitsF (nb b.toNatClampNeg) 8 < bitsF (nb a.toNatClampNeg) 8 ∨ (bitsF (nb a.toNatClampNeg) 8 = bitsF (nb b.toNatClampNeg) 8 ∧ a < b))
/-- the next one: of the agents below b that are in x and not in y -/
def nxR (nb : Nat → Int32) (x y : Int32) : Nat → Int32
  | 0 => -1
  | b + 1 => if (cI x (nI b) ∧ ¬ cI y (nI b)) ∧ gbR nb (nI b) (nxR nb x y b) then nI b else nxR nb x y b
theorem nxR_ix (nb : Nat → Int32) (x y : Int32) : ∀ b, nxR nb x y b = -1 ∨ ∃ k, k < b ∧ nxR nb x y b = nI k ∧ cI x (nI k) ∧ ¬ cI y (nI k)
  | 0 => Or.inl rfl
  | b + 1 => by
    by_cases hc : (cI x (nI b) ∧ ¬ cI y (nI b)) ∧ gbR nb (nI b) (nxR nb x y b)
    · exact Or.inr ⟨b, by omega, if_pos hc, hc.1⟩
    · rw [show nxR nb x y (b + 1) = nxR nb x y b from if_neg hc]
      rcases nxR_ix nb x y b with q | ⟨k, q1, q2⟩
      · exact Or.inl q
      · exact Or.inr ⟨k, by omega, q2⟩
/-- a letter is laid down if there is room -/
def pstS (S : mS) (w a b x : Int32) : mS := if S 34 0 = 20 then S else postS S w a b x
theorem pst_lo {w a b x : Int32} {j : Nat} (hj : j < 34) : pstS S w a b x j = S j := by
  funext i
  unfold pstS
  split
  · rfl
  · exact post_lo hj
theorem pst_nl {w a b x : Int32} {nl : Nat} (hn : S 34 0 = nI nl) (h20 : nl ≤ 20) : ∃ nl', nl' ≤ 20 ∧ pstS S w a b x 34 0 = nI nl' := by
  unfold pstS
  split
  · exact ⟨nl, h20, hn⟩
  · rename_i q
    refine ⟨nl + 1, ?_, ?_⟩
    · rcases Nat.lt_or_ge nl 20 with z | z
      · exact z
      · exact absurd (by rw [hn, show nl = 20 by omega]; rfl) q
    · show S 34 0 + 1 = _
      rw [hn, nI_1]
theorem k_M_pst {nl : Nat} (hn : S 34 0 = nI nl) (h20 : nl ≤ 20) (w a b x : Int32) : mM Γ m_M_post d m ar [.int w, .int a, .int b, .int x] S (fun v9 S' => S' = pstS S w a b x ∧ ∃ y, v9 = some (.int y)) := by
  intro h hm
  refine (k_M_post hn h20 w a b x h hm).cons ?_
  rintro oc h' ⟨v, S', e, q, r⟩
  refine ⟨v, S', e, ?_, r⟩
  rcases q with ⟨q1, q2, q3⟩ | ⟨q1, q2, q3⟩
  · exact ⟨by rw [pstS, if_pos q1]; exact q2, _, q3⟩
  · exact ⟨by rw [pstS, if_neg q1]; exact q2, _, q3⟩
def seR (sp ch : Nat → Int32) (x : Int32) (a : Nat) : Nat → Int32
  | 0 => x
  | k + 1 => seR sp ch x a k ||| sp (ch (8 * a + k)).toNatClampNeg
theorem wkH_rows {T : mS} {n a np cc z w nl nl' : Nat} (h : ∀ j, j < 34 → T j = S j) (h34 : T 34 0 = nI nl') (hnl' : nl' ≤ 20) (hH : wkH S n a np cc z w nl) : wkH T n a np cc z w nl' := by
  obtain ⟨han, hn8, h21, hc8, h20, h14, h3, hwe, hwb, hn20, hnl, hall, hkn⟩ := hH
  have e : ∀ j i, j < 34 → T j i = S j i := fun j i hj => congrFun (h j hj) i
  unfold wkH haN knw nvok nn N unN at *
  rw [h 20 (by decide), h 23 (by decide), h 3 (by decide), e 21 _ (by decide), e 14 _ (by decide), e 22 _ (by decide), e 16 _ (by decide), h 31 (by decide)]
  refine ⟨han, hn8, h21, hc8, h20, h14, h3, hwe, hwb, h34, hnl', fun q => ?_, hkn⟩
  have q2 := hall q
  exact ⟨cwf_rows (h 3 (by decide)) (h 4 (by decide)) (h 5 (by decide)) (h 6 (by decide)) (h 7 (by decide)) (h 8 (by decide)) (h 20 (by decide)) (h 21 (by decide)) (h 24 (by decide)) (h 26 (by decide)) q2.1, q2.2⟩
/-- a is through -/
abbrev hdU (S : mS) (a n cc : Nat) : mS := mu (mu (mu S 19 a (nxR (S 9) (S 9 a) (S 18 a) n)) 14 a 1) 22 a (seR (S 22) (S 20) (S 17 a) a cc &&& ((1 <<< (nI a &&& 31)) ^^^ -1))
abbrev hdV (S : mS) (a n cc : Nat) : mS := if S 16 a < 0 then hdU S a n cc else pstS (hdU S a n cc) 1 (nI a) (S 16 a) (S 18 a)
/-- a holds the token -/
def hdS (S : mS) (a n np cc z w : Nat) : mS :=
  if nxR (S 9) (S 9 a) (S 18 a) n < 0 then wkS (hdV S a n cc) a 1 np cc z w
  else pstS (mu S 19 a (nxR (S 9) (S 9 a) (S 18 a) n)) 0 (nI a) (nxR (S 9) (S 9 a) (S 18 a) n) (S 18 a)
theorem lp_M_hold1 {rc rs n a : Nat} {h0 : jm_H} {Q : jm_O → jm_H → Prop} (hd : 3 ≤ d) (ha : a < 8) (hn : S 1 0 = nI n) (h8 : n ≤ 8) (hm : mo h m ar S) (hf : mo_fr m ar h0 h)
    (hQ : ∀ x3 x4, jm_W Γ m_M_hold d rc rs Q 71 [some (.ref m), some (.int (nI a)), some (.int (nxR (S 9) (S 9 a) (S 18 a) n)), x3, x4] [] h) :
    ∀ j b, b + j = n → ∀ x4, jm_W Γ m_M_hold d rc rs Q 4 [some (.ref m), some (.int (nI a)), some (.int (nxR (S 9) (S 9 a) (S 18 a) b)), some (.int (nI b)), x4] [] h := by
  intro j
  induction j with
  | zero =>
    intro b hb x4
    have hb' : b = n := by omega
    subst hb'
    refine jm_iload_n d_M_hold_4 rfl ?_
    first | refine jm_aload_n d_M_hold_5 rfl ?_ | refine jm_aload_nN d_M_hold_5 rfl ?_
    refine mr_geti d_M_hold_6 f_M_124 hm (by decide) rfl ?_
    rw [hn]
    refine jm_icmp_ge 71 d_M_hold_9 (by decide) (fun hb9 => ?_) (fun hb9 => ?_)
    · exact hQ _ _
    · exact absurd (nI_le (by omega) (by omega)) hb9
  | succ j ih =>
    intro b hb x4
    have e9 := ih (b + 1) (by omega)
    have en : nxR (S 9) (S 9 a) (S 18 a) (b + 1) = if (cI (S 9 a) (nI b) ∧ ¬ cI (S 18 a) (nI b)) ∧ gbR (S 9) (nI b) (nxR (S 9) (S 9 a) (S 18 a) b) then nI b else nxR (S 9) (S 9 a) (S 18 a) b := rfl
    have hvb : 0 ≤ nxR (S 9) (S 9 a) (S 18 a) b → vp_in (nxR (S 9) (S 9 a) (S 18 a) b) 8 := by
      intro q
      rcases nxR_ix (S 9) (S 9 a) (S 18 a) b with z | ⟨k, z1, z2, -⟩
      · rw [z] at q; exact absurd q (by decide)
      · rw [z2]; exact b8 (by omega)
    have K : ∀ (u : Prop) [Decidable u], (u ↔ (cI (S 9 a) (nI b) ∧ ¬ cI (S 18 a) (nI b))) → ∀ y4, jm_W Γ m_M_hold d rc rs Q 43 [some (.ref m), some (.int (nI a)), some (.int (nxR (S 9) (S 9 a) (S 18 a) b)), some (.int (nI b)), y4] [.int (if u then 1 else 0)] h := by
      intro u _ hu y4
      refine jm_istore d_M_hold_43 (Nat.le_of_ble_eq_true rfl) ?_
      refine jm_iload d_M_hold_45 rfl ?_
      first | refine jm_bz_eq 63 d_M_hold_47 (by decide) (fun hb47 => ?_) (fun hb47 => ?_) | refine jm_if_eq 63 d_M_hold_47 (by decide) (fun hb47 => ?_) (fun hb47 => ?_)
      · refine jm_iload_n d_M_hold_63 rfl ?_
        refine jm_istore_n d_M_hold_64 (Nat.le_of_ble_eq_true rfl) ?_
        refine jm_iincL (v := nI (b + 1)) d_M_hold_65 rfl (by rw [nI_succ]; rfl) ?_
        refine jm_goto 4 d_M_hold_68 (by decide) ?_
        first | rw [en, if_neg (fun q => hb47 (hu.mpr q.1))] at e9 | rw [en, if_pos (And.intro (hu.mp hb47) hb56)] at e9 | rw [en, if_neg (fun q => hb56 q.2)] at e9
        exact e9 _
      · first | refine jm_aload_n d_M_hold_50 rfl ?_ | refine jm_aload_nN d_M_hold_50 rfl ?_
        refine jm_iload_n d_M_hold_51 rfl ?_
        refine jm_iload_n d_M_hold_52 rfl ?_
        refine mr_callp (As := [_, _]) d_M_hold_53 l_M_165 iw_M_goesBefore ew_M_goesBefore nv_M_goesBefore rfl (Nat.le_of_ble_eq_true rfl) (by omega : 2 + 1 ≤ _) (k_M_goesBefore (by omega) _ _ (b8 (by omega)) hvb) hm ?_
        first | refine jm_bz_eq 63 d_M_hold_56 (by decide) (fun hb56 => ?_) (fun hb56 => ?_) | refine jm_if_eq 63 d_M_hold_56 (by decide) (fun hb56 => ?_) (fun hb56 => ?_)
        · refine jm_iload_n d_M_hold_63 rfl ?_
          refine jm_istore_n d_M_hold_64 (Nat.le_of_ble_eq_true rfl) ?_
          refine jm_iincL (v := nI (b + 1)) d_M_hold_65 rfl (by rw [nI_succ]; rfl) ?_
          refine jm_goto 4 d_M_hold_68 (by decide) ?_
          first | rw [en, if_neg (fun q => hb47 (hu.mpr q.1))] at e9 | rw [en, if_pos (And.intro (hu.mp hb47) hb56)] at e9 | rw [en, if_neg (fun q => hb56 q.2)] at e9
          exact e9 _
        · refine jm_iload_n d_M_hold_59 rfl ?_
          refine jm_goto 64 d_M_hold_60 (by decide) ?_
          refine jm_istore_n d_M_hold_64 (Nat.le_of_ble_eq_true rfl) ?_
          refine jm_iincL (v := nI (b + 1)) d_M_hold_65 rfl (by rw [nI_succ]; rfl) ?_
          refine jm_goto 4 d_M_hold_68 (by decide) ?_
          first | rw [en, if_neg (fun q => hb47 (hu.mpr q.1))] at e9 | rw [en, if_pos (And.intro (hu.mp hb47) hb56)] at e9 | rw [en, if_neg (fun q => hb56 q.2)] at e9
          exact e9 _
    refine jm_iload_n d_M_hold_4 rfl ?_
    first | refine jm_aload_n d_M_hold_5 rfl ?_ | refine jm_aload_nN d_M_hold_5 rfl ?_
    refine mr_geti d_M_hold_6 f_M_124 hm (by decide) rfl ?_
    rw [hn]
    refine jm_icmp_ge 71 d_M_hold_9 (by decide) (fun hb9 => ?_) (fun hb9 => ?_)
    · exact absurd hb9 (nI_ge (by omega) (by omega))
    · first | refine jm_aload_n d_M_hold_12 rfl ?_ | refine jm_aload_nN d_M_hold_12 rfl ?_
      refine mr_geta d_M_hold_13 f_M_25 hm (by decide) (by decide) ?_
      refine jm_iload_n d_M_hold_16 rfl ?_
      refine mr_ldN _ d_M_hold_17 hm (by decide) (by decide) rfl rfl (by simp only [mo_len]; omega) ?_
      refine jm_iload_n d_M_hold_18 rfl ?_
      refine jm_callSp (As := [_, _]) d_M_hold_19 l_M_120 sw_M_has nv_M_has rfl (Nat.le_of_ble_eq_true rfl) (by omega : 0 + 1 ≤ _) (k_M_has _ _) ?_
      first | refine jm_bz_eq 42 d_M_hold_22 (by decide) (fun hb22 => ?_) (fun hb22 => ?_) | refine jm_if_eq 42 d_M_hold_22 (by decide) (fun hb22 => ?_) (fun hb22 => ?_)
      · refine jm_iconstL (v := 0) d_M_hold_42 (by decide) ?_
        first | exact K False (iff_of_false id (fun q => hb22 q.1)) _ | exact K False (iff_of_false id (fun q => q.2 hb35)) _
      · first | refine jm_aload_n d_M_hold_25 rfl ?_ | refine jm_aload_nN d_M_hold_25 rfl ?_
        refine mr_geta d_M_hold_26 f_M_53 hm (by decide) (by decide) ?_
        refine jm_iload_n d_M_hold_29 rfl ?_
        refine mr_ldN _ d_M_hold_30 hm (by decide) (by decide) rfl rfl (by simp only [mo_len]; omega) ?_
        refine jm_iload_n d_M_hold_31 rfl ?_
        refine jm_callSp (As := [_, _]) d_M_hold_32 l_M_120 sw_M_has nv_M_has rfl (Nat.le_of_ble_eq_true rfl) (by omega : 0 + 1 ≤ _) (k_M_has _ _) ?_
        first | refine jm_bz_ne 42 d_M_hold_35 (by decide) (fun hb35 => ?_) (fun hb35 => ?_) | refine jm_if_ne 42 d_M_hold_35 (by decide) (fun hb35 => ?_) (fun hb35 => ?_)
        · refine jm_iconstL (v := 0) d_M_hold_42 (by decide) ?_
          first | exact K False (iff_of_false id (fun q => hb22 q.1)) _ | exact K False (iff_of_false id (fun q => q.2 hb35)) _
        · refine jm_iconstL (v := 1) d_M_hold_38 (by decide) ?_
          refine jm_goto 43 d_M_hold_39 (by decide) ?_
          exact K True (iff_of_true trivial ⟨hb22, hb35⟩) _
theorem lp_M_hold2 {rc rs a cc : Nat} {T : mS} {Q : jm_O → jm_H → Prop} {w2 : Option Value} (ha : a < 8) (h21 : T 21 a = nI cc) (hc8 : cc ≤ 8) (h20 : ∀ k, k < cc → nn T 20 (8 * a + k) 7) (hm : mo h m ar T)
    (hQ : ∀ x4, jm_W Γ m_M_hold d rc rs Q 151 [some (.ref m), some (.int (nI a)), w2, some (.int (seR (T 22) (T 20) (T 17 a) a cc)), x4] [] h) :
    ∀ j k, k + j = cc → jm_W Γ m_M_hold d rc rs Q 114 [some (.ref m), some (.int (nI a)), w2, some (.int (seR (T 22) (T 20) (T 17 a) a k)), some (.int (nI k))] [] h := by
  intro j
  induction j with
  | zero =>
    intro k hk
    have hk' : k = cc := by omega
    subst hk'
    refine jm_iload d_M_hold_114 rfl ?_
    first | refine jm_aload_n d_M_hold_116 rfl ?_ | refine jm_aload_nN d_M_hold_116 rfl ?_
    refine mr_geta d_M_hold_117 f_M_62 hm (by decide) (by decide) ?_
    refine jm_iload_n d_M_hold_120 rfl ?_
    refine mr_ldN _ d_M_hold_121 hm (by decide) (by decide) rfl rfl (by simp only [mo_len]; omega) ?_
    rw [h21]
    refine jm_icmp_ge 151 d_M_hold_122 (by decide) (fun hb122 => ?_) (fun hb122 => ?_)
    · exact hQ _
    · exact absurd (nI_le (by omega) (by omega)) hb122
  | succ j ih =>
    intro k hk
    obtain ⟨q1, q2⟩ := h20 k (by omega)
    refine jm_iload d_M_hold_114 rfl ?_
    first | refine jm_aload_n d_M_hold_116 rfl ?_ | refine jm_aload_nN d_M_hold_116 rfl ?_
    refine mr_geta d_M_hold_117 f_M_62 hm (by decide) (by decide) ?_
    refine jm_iload_n d_M_hold_120 rfl ?_
    refine mr_ldN _ d_M_hold_121 hm (by decide) (by decide) rfl rfl (by simp only [mo_len]; omega) ?_
    rw [h21]
    refine jm_icmp_ge 151 d_M_hold_122 (by decide) (fun hb122 => ?_) (fun hb122 => ?_)
    · exact absurd hb122 (nI_ge (by omega) (by omega))
    · refine jm_iload_n d_M_hold_125 rfl ?_
      first | refine jm_aload_n d_M_hold_126 rfl ?_ | refine jm_aload_nN d_M_hold_126 rfl ?_
      refine mr_geta d_M_hold_127 f_M_65 hm (by decide) (by decide) ?_
      first | refine jm_aload_n d_M_hold_130 rfl ?_ | refine jm_aload_nN d_M_hold_130 rfl ?_
      refine mr_geta d_M_hold_131 f_M_59 hm (by decide) (by decide) ?_
      refine jm_bipushL (v := 8) d_M_hold_134 (by decide) ?_
      refine jm_iload_n d_M_hold_136 rfl ?_
      refine jm_imul d_M_hold_137 ?_
      refine jm_iload d_M_hold_138 rfl ?_
      refine jm_iadd d_M_hold_140 ?_
      rw [e8]
      refine mr_ldN _ d_M_hold_141 hm (by decide) (by decide) rfl rfl (by simp only [mo_len]; omega) ?_
      rw [q1]
      refine mr_ldN _ d_M_hold_142 hm (by decide) (by decide) rfl rfl (by simp only [mo_len]; omega) ?_
      refine jm_ior d_M_hold_143 ?_
      refine jm_istore_n d_M_hold_144 (Nat.le_of_ble_eq_true rfl) ?_
      refine jm_iincL (v := nI (k + 1)) d_M_hold_145 rfl (by rw [nI_succ]; rfl) ?_
      refine jm_goto 114 d_M_hold_148 (by decide) ?_
      exact ih (k + 1) (by omega)
theorem k_M_hold {n a np cc z w nl : Nat} (hd : 6 ≤ d) (han : a < n) (hn : S 1 0 = nI n) (h8 : n ≤ 8) (h21 : S 21 a = nI cc) (hc8 : cc ≤ 8) (h20 : ∀ k, k < cc → nn S 20 (8 * a + k) 7) (hn20 : S 34 0 = nI nl) (hnl : nl ≤ 20) (hH : nxR (S 9) (S 9 a) (S 18 a) n < 0 → wkH (hdU S a n cc) n a np cc z w nl) : mM Γ m_M_hold d m ar [.int (nI a)] S (fun v9 S' => v9 = none ∧ S' = hdS S a n np cc z w) := by
  intro h hm
  have hf : mo_fr m ar h h := mo_fr.rf
  have ha : a < 8 := by omega
  refine jm_entry (by decide +kernel) (List.forall_mem_cons.mpr ⟨rfl, List.forall_mem_cons.mpr ⟨rfl, fun _ h => nomatch h⟩⟩) (Nat.le_of_ble_eq_true rfl) ?_
  show jm_W _ _ _ _ _ _ 0 [some (.ref m), some (.int (nI a)), none, none, none] [] _
  refine jm_iconstL (v := (-1)) d_M_hold_0 (by decide) ?_
  refine jm_istore_n d_M_hold_1 (Nat.le_of_ble_eq_true rfl) ?_
  refine jm_iconstL (v := nI 0) d_M_hold_2 (by decide) ?_
  refine jm_istore_n d_M_hold_3 (Nat.le_of_ble_eq_true rfl) ?_
  refine lp_M_hold1 (by omega) ha hn h8 hm hf (fun x3 x4 => ?_) n 0 (by omega) _
  first | refine jm_aload_n d_M_hold_71 rfl ?_ | refine jm_aload_nN d_M_hold_71 rfl ?_
  refine mr_geta d_M_hold_72 f_M_56 hm (by decide) (by decide) ?_
  refine jm_iload_n d_M_hold_75 rfl ?_
  refine jm_iload_n d_M_hold_76 rfl ?_
  refine mr_stN _ d_M_hold_77 hm hf (by decide) (by decide) rfl rfl (by simp only [mo_len]; omega) (fun h hm hf => ?_)
  refine jm_iload_n d_M_hold_78 rfl ?_
  refine jm_if_lt 97 d_M_hold_79 (by decide) (fun hb79 => ?_) (fun hb79 => ?_)
  · have hng : nxR (S 9) (S 9 a) (S 18 a) n < 0 := hb79
    first | refine jm_aload_n d_M_hold_97 rfl ?_ | refine jm_aload_nN d_M_hold_97 rfl ?_
    refine mr_geta d_M_hold_98 f_M_41 hm (by decide) (by decide) ?_
    refine jm_iload_n d_M_hold_101 rfl ?_
    refine jm_iconstL (v := nI 1) d_M_hold_102 (by decide) ?_
    refine mr_stzN _ d_M_hold_103 hm hf (by decide) (by decide) rfl rfl (by simp only [mo_len]; omega) rfl (fun h hm hf => ?_)
    first | refine jm_aload_n d_M_hold_104 rfl ?_ | refine jm_aload_nN d_M_hold_104 rfl ?_
    refine mr_geta d_M_hold_105 f_M_50 hm (by decide) (by decide) ?_
    refine jm_iload_n d_M_hold_108 rfl ?_
    refine mr_ldN _ d_M_hold_109 hm (by decide) (by decide) rfl rfl (by simp only [mo_len]; omega) ?_
    refine jm_istore_n d_M_hold_110 (Nat.le_of_ble_eq_true rfl) ?_
    refine jm_iconstL (v := nI 0) d_M_hold_111 (by decide) ?_
    refine jm_istore d_M_hold_112 (Nat.le_of_ble_eq_true rfl) ?_
    refine lp_M_hold2 (T := mu (mu S 19 a (nxR (S 9) (S 9 a) (S 18 a) n)) 14 a 1) (cc := cc) ha h21 hc8 h20 hm (fun x4 => ?_) cc 0 (by omega)
    first | refine jm_aload_n d_M_hold_151 rfl ?_ | refine jm_aload_nN d_M_hold_151 rfl ?_
    refine mr_geta d_M_hold_152 f_M_65 hm (by decide) (by decide) ?_
    refine jm_iload_n d_M_hold_155 rfl ?_
    refine jm_iload_n d_M_hold_156 rfl ?_
    refine jm_iconstL (v := 1) d_M_hold_157 (by decide) ?_
    refine jm_iload_n d_M_hold_158 rfl ?_
    refine jm_ishl d_M_hold_159 ?_
    refine jm_iconstL (v := (-1)) d_M_hold_160 (by decide) ?_
    refine jm_ixor d_M_hold_161 ?_
    refine jm_iand d_M_hold_162 ?_
    refine mr_stN _ d_M_hold_163 hm hf (by decide) (by decide) rfl rfl (by simp only [mo_len]; omega) (fun h hm hf => ?_)
    have hW := hH hng
    have hm : mo h m ar (hdU S a n cc) := hm
    have e16 : hdU S a n cc 16 a = S 16 a := rfl
    have e18 : hdU S a n cc 18 a = S 18 a := rfl
    have e34 : hdU S a n cc 34 0 = nI nl := hn20
    first | refine jm_aload_n d_M_hold_164 rfl ?_ | refine jm_aload_nN d_M_hold_164 rfl ?_
    refine mr_geta d_M_hold_165 f_M_47 hm (by decide) (by decide) ?_
    refine jm_iload_n d_M_hold_168 rfl ?_
    refine mr_ldN _ d_M_hold_169 hm (by decide) (by decide) rfl rfl (by simp only [mo_len]; omega) ?_
    rw [e16]
    refine jm_if_lt 193 d_M_hold_170 (by decide) (fun hb170 => ?_) (fun hb170 => ?_)
    · first | refine jm_aload_n d_M_hold_193 rfl ?_ | refine jm_aload_nN d_M_hold_193 rfl ?_
      refine jm_iload_n d_M_hold_194 rfl ?_
      refine jm_iconstL (v := 1) d_M_hold_195 (by decide) ?_
      refine mr_call (As := [_, _]) d_M_hold_196 l_M_186 iw_M_work ew_M_work nv_M_work rfl (Nat.le_of_ble_eq_true rfl) (by omega : 5 + 1 ≤ _) (k_M_work (n := n) (np := np) (cc := cc) (z := z) (w := w) (nl := nl) 1 (by omega) hW) hm hf (fun v9 S9 h hq hm hf => ?_)
      obtain ⟨rfl, rfl⟩ := hq
      exact jm_vret d_M_hold_199 rfl ⟨_, _, rfl, ⟨rfl, by rw [hdS, if_pos hng, hdV, if_pos hb170]⟩, hm, hf⟩
    · first | refine jm_aload_n d_M_hold_173 rfl ?_ | refine jm_aload_nN d_M_hold_173 rfl ?_
      refine jm_iconstL (v := 1) d_M_hold_174 (by decide) ?_
      refine jm_iload_n d_M_hold_175 rfl ?_
      first | refine jm_aload_n d_M_hold_176 rfl ?_ | refine jm_aload_nN d_M_hold_176 rfl ?_
      refine mr_geta d_M_hold_177 f_M_47 hm (by decide) (by decide) ?_
      refine jm_iload_n d_M_hold_180 rfl ?_
      refine mr_ldN _ d_M_hold_181 hm (by decide) (by decide) rfl rfl (by simp only [mo_len]; omega) ?_
      rw [e16]
      first | refine jm_aload_n d_M_hold_182 rfl ?_ | refine jm_aload_nN d_M_hold_182 rfl ?_
      refine mr_geta d_M_hold_183 f_M_53 hm (by decide) (by decide) ?_
      refine jm_iload_n d_M_hold_186 rfl ?_
      refine mr_ldN _ d_M_hold_187 hm (by decide) (by decide) rfl rfl (by simp only [mo_len]; omega) ?_
      rw [e18]
      refine mr_call (As := [_, _, _, _]) d_M_hold_188 l_M_179 iw_M_post ew_M_post nv_M_post rfl (Nat.le_of_ble_eq_true rfl) (by omega : 0 + 1 ≤ _) (k_M_pst e34 hnl _ _ _ _) hm hf (fun v9 S9 h hq hm hf => ?_)
      obtain ⟨rfl, y9, rfl⟩ := hq
      obtain ⟨nl', hnl', e34'⟩ := pst_nl (S := hdU S a n cc) (w := 1) (a := nI a) (b := S 16 a) (x := S 18 a) e34 hnl
      refine jm_istore d_M_hold_191 (Nat.le_of_ble_eq_true rfl) ?_
      first | refine jm_aload_n d_M_hold_193 rfl ?_ | refine jm_aload_nN d_M_hold_193 rfl ?_
      refine jm_iload_n d_M_hold_194 rfl ?_
      refine jm_iconstL (v := 1) d_M_hold_195 (by decide) ?_
      refine mr_call (As := [_, _]) d_M_hold_196 l_M_186 iw_M_work ew_M_work nv_M_work rfl (Nat.le_of_ble_eq_true rfl) (by omega : 5 + 1 ≤ _) (k_M_work (n := n) (np := np) (cc := cc) (z := z) (w := w) (nl := nl') 1 (by omega) (wkH_rows (fun j hj => pst_lo hj) e34' hnl' hW)) hm hf (fun v9 S9 h hq hm hf => ?_)
      obtain ⟨rfl, rfl⟩ := hq
      exact jm_vret d_M_hold_199 rfl ⟨_, _, rfl, ⟨rfl, by rw [hdS, if_pos hng, hdV, if_neg hb170]⟩, hm, hf⟩
  · first | refine jm_aload_n d_M_hold_82 rfl ?_ | refine jm_aload_nN d_M_hold_82 rfl ?_
    refine jm_iconstL (v := 0) d_M_hold_83 (by decide) ?_
    refine jm_iload_n d_M_hold_84 rfl ?_
    refine jm_iload_n d_M_hold_85 rfl ?_
    first | refine jm_aload_n d_M_hold_86 rfl ?_ | refine jm_aload_nN d_M_hold_86 rfl ?_
    refine mr_geta d_M_hold_87 f_M_53 hm (by decide) (by decide) ?_
    refine jm_iload_n d_M_hold_90 rfl ?_
    refine mr_ldN _ d_M_hold_91 hm (by decide) (by decide) rfl rfl (by simp only [mo_len]; omega) ?_
    refine mr_call (As := [_, _, _, _]) d_M_hold_92 l_M_179 iw_M_post ew_M_post nv_M_post rfl (Nat.le_of_ble_eq_true rfl) (by omega : 0 + 1 ≤ _) (k_M_pst (S := mu S 19 a (nxR (S 9) (S 9 a) (S 18 a) n)) hn20 hnl _ _ _ _) hm hf (fun v9 S9 h hq hm hf => ?_)
    obtain ⟨rfl, y9, rfl⟩ := hq
    refine jm_istore_n d_M_hold_95 (Nat.le_of_ble_eq_true rfl) ?_
    exact jm_vret d_M_hold_96 rfl ⟨_, _, rfl, ⟨rfl, by rw [hdS, if_neg hb79]; rfl⟩, hm, hf⟩
/-- the token comes to a -/
abbrev rt0 (S : mS) (a : Nat) (s x : Int32) : mS := mu (mu (mu (mu S 13 a 1) 16 a s) 17 a (S 9 a &&& x)) 18 a (x ||| 1 <<< (nI a &&& 31))
theorem k_M_receiveToken {n a np cc z w nl : Nat} (s x : Int32) (hd : 7 ≤ d) (han : a < n) (hn : S 1 0 = nI n) (h8 : n ≤ 8) (h21 : S 21 a = nI cc) (hc8 : cc ≤ 8) (h20 : ∀ k, k < cc → nn S 20 (8 * a + k) 7) (hn20 : S 34 0 = nI nl) (hnl : nl ≤ 20) (hH : nxR (rt0 S a s x 9) (rt0 S a s x 9 a) (rt0 S a s x 18 a) n < 0 → wkH (hdU (rt0 S a s x) a n cc) n a np cc z w nl) : mM Γ m_M_receiveToken d m ar [.int (nI a), .int s, .int x] S (fun v9 S' => v9 = none ∧ S' = hdS (rt0 S a s x) a n np cc z w) := by
  intro h hm
  have hf : mo_fr m ar h h := mo_fr.rf
  refine jm_entry (by decide +kernel) (List.forall_mem_cons.mpr ⟨rfl, List.forall_mem_cons.mpr ⟨rfl, List.forall_mem_cons.mpr ⟨rfl, List.forall_mem_cons.mpr ⟨rfl, fun _ h => nomatch h⟩⟩⟩⟩) (Nat.le_of_ble_eq_true rfl) ?_
  show jm_W _ _ _ _ _ _ 0 [some (.ref m), some (.int (nI a)), some (.int s), some (.int x)] [] _
  first | refine jm_aload_n d_M_receiveToken_0 rfl ?_ | refine jm_aload_nN d_M_receiveToken_0 rfl ?_
  refine mr_geta d_M_receiveToken_1 f_M_37 hm (by decide) (by decide) ?_
  refine jm_iload_n d_M_receiveToken_4 rfl ?_
  refine jm_iconstL (v := 1) d_M_receiveToken_5 (by decide) ?_
  refine mr_stzN _ d_M_receiveToken_6 hm hf (by decide) (by decide) rfl rfl (by simp only [mo_len]; omega) rfl (fun h hm hf => ?_)
  first | refine jm_aload_n d_M_receiveToken_7 rfl ?_ | refine jm_aload_nN d_M_receiveToken_7 rfl ?_
  refine mr_geta d_M_receiveToken_8 f_M_47 hm (by decide) (by decide) ?_
  refine jm_iload_n d_M_receiveToken_11 rfl ?_
  refine jm_iload_n d_M_receiveToken_12 rfl ?_
  refine mr_stN _ d_M_receiveToken_13 hm hf (by decide) (by decide) rfl rfl (by simp only [mo_len]; omega) (fun h hm hf => ?_)
  first | refine jm_aload_n d_M_receiveToken_14 rfl ?_ | refine jm_aload_nN d_M_receiveToken_14 rfl ?_
  refine mr_geta d_M_receiveToken_15 f_M_50 hm (by decide) (by decide) ?_
  refine jm_iload_n d_M_receiveToken_18 rfl ?_
  first | refine jm_aload_n d_M_receiveToken_19 rfl ?_ | refine jm_aload_nN d_M_receiveToken_19 rfl ?_
  refine mr_geta d_M_receiveToken_20 f_M_25 hm (by decide) (by decide) ?_
  refine jm_iload_n d_M_receiveToken_23 rfl ?_
  refine mr_ldN _ d_M_receiveToken_24 hm (by decide) (by decide) rfl rfl (by simp only [mo_len]; omega) ?_
  refine jm_iload_n d_M_receiveToken_25 rfl ?_
  refine jm_iand d_M_receiveToken_26 ?_
  refine mr_stN _ d_M_receiveToken_27 hm hf (by decide) (by decide) rfl rfl (by simp only [mo_len]; omega) (fun h hm hf => ?_)
  first | refine jm_aload_n d_M_receiveToken_28 rfl ?_ | refine jm_aload_nN d_M_receiveToken_28 rfl ?_
  refine mr_geta d_M_receiveToken_29 f_M_53 hm (by decide) (by decide) ?_
  refine jm_iload_n d_M_receiveToken_32 rfl ?_
  refine jm_iload_n d_M_receiveToken_33 rfl ?_
  refine jm_iconstL (v := 1) d_M_receiveToken_34 (by decide) ?_
  refine jm_iload_n d_M_receiveToken_35 rfl ?_
  refine jm_ishl d_M_receiveToken_36 ?_
  refine jm_ior d_M_receiveToken_37 ?_
  refine mr_stN _ d_M_receiveToken_38 hm hf (by decide) (by decide) rfl rfl (by simp only [mo_len]; omega) (fun h hm hf => ?_)
  first | refine jm_aload_n d_M_receiveToken_39 rfl ?_ | refine jm_aload_nN d_M_receiveToken_39 rfl ?_
  refine jm_iload_n d_M_receiveToken_40 rfl ?_
  refine mr_call (As := [_]) d_M_receiveToken_41 l_M_183 iw_M_hold ew_M_hold nv_M_hold rfl (Nat.le_of_ble_eq_true rfl) (by omega : 6 + 1 ≤ _) (k_M_hold (S := rt0 S a s x) (n := n) (np := np) (cc := cc) (z := z) (w := w) (nl := nl) (by omega) han hn h8 h21 hc8 h20 hn20 hnl hH) hm hf (fun v9 S9 h hq hm hf => ?_)
  obtain ⟨rfl, rfl⟩ := hq
  exact jm_vret d_M_receiveToken_44 rfl ⟨_, _, rfl, ⟨rfl, rfl⟩, hm, hf⟩
end
