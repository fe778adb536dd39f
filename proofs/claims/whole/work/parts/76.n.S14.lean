/-! SIMULATION S14. Laid by wip/whole/gen/p71.py -/
section
theorem bcI_nn {nb : Int32} (h : ∃ m, m < 256 ∧ nb = nI m) : bcI nb = nI (pcN nb 8) := by
  obtain ⟨m, hm, rfl⟩ := h
  rw [bc_bits m hm, pcN_bits]
theorem bf_lt {x y : Int32} : bitsF x 8 < bitsF y 8 ↔ pcN x 8 < pcN y 8 := by
  have h1 := pcN_le x 8
  have h2 := pcN_le y 8
  rw [pcN_bits, pcN_bits]
  constructor
  · intro q
    rcases Nat.lt_or_ge (pcN x 8) (pcN y 8) with z | z
    · exact z
    · exact absurd q (nI_nlt z (by omega))
  · intro q; exact nI_lt q (by omega)
/-- the most joined of a mask, as both count -/
theorem mj_gen {nb nb' : Nat → Int32} {y : Int32} {fr : Nat → Prop} {nx : Nat → Int32} {n : Nat} (hn : n ≤ 8) (hnb : ∀ b, b < n → nb b = nb' b ∧ ∃ m, m < 256 ∧ nb' b = nI m) (hy : ∀ b, b < n → (cI y (nI b) ↔ fr b)) (h0 : nx 0 = -1)
    (h1 : ∀ b, b < n → fr b → gbR nb' (nI b) (nx b) → nx (b + 1) = nI b) (h2 : ∀ b, b < n → ¬ (fr b ∧ gbR nb' (nI b) (nx b)) → nx (b + 1) = nx b) :
    ∀ k, k ≤ n → (mjR nb y k).1 = nx k ∧ (((mjR nb y k).1 = -1 ∧ (mjR nb y k).2 = -1) ∨ ∃ j, j < k ∧ (mjR nb y k).1 = nI j ∧ (mjR nb y k).2 = nI (pcN (nb' j) 8))
  | 0, _ => ⟨h0.symm, Or.inl ⟨rfl, rfl⟩⟩
  | k + 1, hk => by
    obtain ⟨i1, i2⟩ := mj_gen hn hnb hy h0 h1 h2 k (by omega)
    obtain ⟨e1, e2⟩ := hnb k (by omega)
    have p8 := pcN_le (nb' k) 8
    have gb : (mjR nb y k).2 < bcI (nb k) ↔ gbR nb' (nI k) (nx k) := by
      rw [e1, bcI_nn e2]
      rcases i2 with ⟨q1, q2⟩ | ⟨j, q1, q2, q3⟩
      · rw [q2]
        have e : nx k = -1 := by rw [← i1, q1]
        rw [e]
        refine ⟨fun _ => Or.inl (by decide), fun _ => ?_⟩
        exact Int32.lt_of_lt_of_le (by decide) (nI_pos' (by omega))
      · have pj := pcN_le (nb' j) 8
        have e : nx k = nI j := by rw [← i1, q2]
        rw [q3, e]
        unfold gbR
        rw [nI_clamp (by omega), nI_clamp (by omega), bf_lt]
        constructor
        · intro z
          refine Or.inr (Or.inl ?_)
          rcases Nat.lt_or_ge (pcN (nb' j) 8) (pcN (nb' k) 8) with y | y
          · exact y
          · exact absurd z (nI_nlt y (by omega))
        · intro z
          rcases z with z | z | z
          · exact absurd (nI_pos' (by omega)) z
          · exact nI_lt z (by omega)
          · exact absurd z.2 (nI_nlt (by omega) (by omega))
    rw [mjR]
    by_cases q : cI y (nI k) ∧ (mjR nb y k).2 < bcI (nb k)
    · rw [if_pos q, h1 k (by omega) ((hy k (by omega)).mp q.1) (gb.mp q.2)]
      exact ⟨rfl, Or.inr ⟨k, Nat.lt_succ_self k, rfl, by rw [e1, bcI_nn e2]⟩⟩
    · rw [if_neg q, h2 k (by omega) (fun z => q ⟨(hy k (by omega)).mpr z.1, gb.mpr z.2⟩)]
      refine ⟨i1, i2.imp_right (fun ⟨j, z1, z2⟩ => ⟨j, by omega, z2⟩)⟩
theorem mj_nx {nb nb' : Nat → Int32} {x m y : Int32} {n : Nat} (hn : n ≤ 8) (hnb : ∀ b, b < n → nb b = nb' b ∧ ∃ m, m < 256 ∧ nb' b = nI m) (hy : ∀ b, b < n → (cI y (nI b) ↔ cI x (nI b) ∧ ¬ cI m (nI b))) : (mjR nb y n).1 = nxR nb' x m n :=
  (mj_gen (fr := fun b => cI x (nI b) ∧ ¬ cI m (nI b)) (nx := nxR nb' x m) hn hnb hy rfl (fun b _ q1 q2 => by rw [nxR, if_pos ⟨q1, q2⟩]) (fun b _ q => by rw [nxR, if_neg q]) n (Nat.le_refl _)).1
theorem mj_rt {nb nb' : Nat → Int32} {x : Int32} {n : Nat} (hn : n ≤ 8) (hnb : ∀ b, b < n → nb b = nb' b ∧ ∃ m, m < 256 ∧ nb' b = nI m) : (mjR nb x n).1 = rtR nb' x n :=
  (mj_gen (fr := fun b => cI x (nI b)) (nx := rtR nb' x) hn hnb (fun _ _ => Iff.rfl) rfl (fun b _ q1 q2 => by rw [rtR, if_pos ⟨q1, q2⟩]) (fun b _ q => by rw [rtR, if_neg q]) n (Nat.le_refl _)).1
theorem nx_none {nb : Nat → Int32} {x m : Int32} : ∀ k, k ≤ 8 → nxR nb x m k = -1 → ∀ b, b < k → cI x (nI b) → cI m (nI b)
  | 0, _, _, b, hb, _ => absurd hb (Nat.not_lt_zero _)
  | k + 1, h8, h, b, hb, q => by
    rw [nxR] at h
    by_cases z : (cI x (nI k) ∧ ¬ cI m (nI k)) ∧ gbR nb (nI k) (nxR nb x m k)
    · rw [if_pos z] at h; exact absurd h (nI_m1' (by omega))
    · rw [if_neg z] at h
      rcases Nat.lt_or_ge b k with y | y
      · exact nx_none k (by omega) h b y q
      · have e : b = k := by omega
        subst e
        refine Classical.byContradiction (fun w => z ⟨⟨q, w⟩, Or.inl ?_⟩)
        rw [h]; decide
theorem se_bits {sp ch : Nat → Int32} {x : Int32} {a c : Nat} (hc : c < 8) : ∀ k, cI (seR sp ch x a k) (nI c) ↔ cI x (nI c) ∨ ∃ j, j < k ∧ cI (sp (ch (8 * a + j)).toNatClampNeg) (nI c)
  | 0 => ⟨Or.inl, fun q => q.resolve_right (fun ⟨j, hj, _⟩ => absurd hj (Nat.not_lt_zero _))⟩
  | k + 1 => by
    rw [seR, cI_or hc, se_bits hc k]
    constructor
    · intro q
      rcases q with (q | ⟨j, q1, q2⟩) | q
      · exact Or.inl q
      · exact Or.inr ⟨j, by omega, q2⟩
      · exact Or.inr ⟨k, Nat.lt_succ_self k, q⟩
    · intro q
      rcases q with q | ⟨j, q1, q2⟩
      · exact Or.inl (Or.inl q)
      · rcases Nat.lt_or_ge j k with y | y
        · exact Or.inl (Or.inr ⟨j, y, q2⟩)
        · rw [show j = k by omega] at q2; exact Or.inr q2
theorem se_c {sp sp' ch ch' : Nat → Int32} {x : Int32} {a : Nat} : ∀ k, (∀ j, j < k → sp (ch (8 * a + j)).toNatClampNeg = sp' (ch' (8 * a + j)).toNatClampNeg) → seR sp ch x a k = seR sp' ch' x a k
  | 0, _ => rfl
  | k + 1, h => by rw [seR, seR, se_c k (fun j hj => h j (by omega)), h k (by omega)]
end
