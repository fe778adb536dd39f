/-! SIMULATION S19. Laid by wip/whole/gen/p71.py -/
section
variable {S C : mS} {n np nl T : Nat} {sz : Nat → Nat → Nat} {A : Rl} {dd : Nat → Nat} {hh : Nat → Prop} {hx ex : Nat}
theorem WI_0 {y : Int32} (W : WI S C n np nl T sz A dd hh hx ex) : WI (mu S 0 0 y) C n np nl T sz A dd hh hx ex := by
  obtain ⟨w1, B, M, IXh, LVs, CDh, Z5h⟩ := W
  have row : ∀ j, j ≠ 0 → (mu S 0 0 y) j = S j := fun j q => mu_row q
  refine ⟨by rw [row 2 (by decide)]; exact w1, ?_, ?_, ?_, fun k hk => ?_, CD_r CDh (row 20 (by decide)) (row 21 (by decide)), Z5_r Z5h (row 10 (by decide)) (fun _ => rfl)⟩
  · have := B; unfold BI at *; simp only [nn, N, vnb] at *
    rw [row 1 (by decide), row 2 (by decide), row 3 (by decide), row 4 (by decide), row 5 (by decide), row 6 (by decide), row 7 (by decide), row 8 (by decide), row 9 (by decide), row 12 (by decide), row 13 (by decide), row 14 (by decide), row 15 (by decide), row 16 (by decide), row 19 (by decide), row 20 (by decide), row 21 (by decide), row 23 (by decide), row 26 (by decide), row 28 (by decide), row 29 (by decide), row 34 (by decide)]
    exact this
  · obtain ⟨M1, MG, ME, MC, MT, MK, MO, MP, MQ, ML⟩ := M
    exact ⟨M1_rows (row 2 (by decide)) (row 27 (by decide)) rfl rfl rfl rfl rfl rfl rfl rfl M1, MG_rows (row 3 (by decide)) (row 9 (by decide)) (row 10 (by decide)) (row 15 (by decide)) (row 16 (by decide)) (row 17 (by decide)) (row 18 (by decide)) (row 22 (by decide)) (row 23 (by decide)) (row 28 (by decide)) rfl rfl rfl rfl rfl rfl rfl rfl rfl rfl MG, ME_rows (row 13 (by decide)) (row 14 (by decide)) (row 19 (by decide)) rfl rfl ME, mC_rows (row 19 (by decide)) (row 20 (by decide)) (row 21 (by decide)) (row 23 (by decide)) (row 25 (by decide)) (row 26 (by decide)) rfl rfl rfl rfl rfl (fun _ => rfl) MC, MT_rows (row 23 (by decide)) (row 25 (by decide)) (row 26 (by decide)) rfl rfl MT, MK_rows (row 28 (by decide)) (row 31 (by decide)) rfl rfl MK, MO_rows (row 4 (by decide)) rfl MO, MP_rows (row 6 (by decide)) (row 7 (by decide)) (row 8 (by decide)) rfl rfl rfl MP, MQ_rows (row 10 (by decide)) (row 11 (by decide)) (row 12 (by decide)) (row 29 (by decide)) rfl rfl rfl (fun _ => rfl) MQ, ML_rows (row 35 (by decide)) (row 36 (by decide)) (row 37 (by decide)) (row 38 (by decide)) (row 39 (by decide)) (row 41 (by decide)) rfl rfl rfl rfl rfl rfl ML⟩
  · rw [IX_rows (fun j _ _ _ q0 => row j q0)]; exact IXh
  · have := LVs k hk
    unfold LVk at *
    rw [row 35 (by decide), row 36 (by decide), row 37 (by decide), row 38 (by decide), row 39 (by decide), row 40 (by decide), row 41 (by decide), LV_rows (fun j _ _ _ q0 => row j q0)]
    exact this
theorem stg_iy {a : Nat} (M : SIM S C n np nl sz 8) (h8 : n ≤ 8) (ha : a < n) : (C 50 a = 2 ↔ S 13 a ≠ 0 ∧ S 14 a ≠ 0) ∧ (C 50 a = 1 ↔ S 13 a ≠ 0 ∧ S 14 a = 0) := by
  rw [(M.2.2.1 a ha).1 (by omega)]
  unfold stg
  by_cases q : S 13 a = 0
  · rw [if_pos q]; exact ⟨⟨fun z => absurd z (by decide), fun z => absurd q z.1⟩, ⟨fun z => absurd z (by decide), fun z => absurd q z.1⟩⟩
  · rw [if_neg q]
    by_cases q2 : S 14 a = 0
    · rw [if_pos q2]; exact ⟨⟨fun z => absurd z (by decide), fun z => absurd q2 z.2⟩, ⟨fun _ => ⟨q, q2⟩, fun _ => rfl⟩⟩
    · rw [if_neg q2]; exact ⟨⟨fun _ => ⟨q, q2⟩, fun _ => rfl⟩, ⟨fun z => absurd z (by decide), fun z => absurd z.2 q2⟩⟩
theorem nn_pos {y : Int32} {b : Nat} (h : y = nI y.toNatClampNeg) (h2 : y.toNatClampNeg ≤ b) (hb : b < 2 ^ 31) : (y ≤ 0 ↔ y = 0) ∧ (y ≠ 0 ↔ 0 < y.toNatClampNeg) := by
  rcases Nat.eq_zero_or_pos y.toNatClampNeg with q | q
  · have e : y = 0 := by rw [h, q]; rfl
    exact ⟨⟨fun _ => e, fun _ => by rw [e]; decide⟩, ⟨fun z => absurd e z, fun z => by omega⟩⟩
  · have ne : y ≠ 0 := fun e => by rw [e] at q; exact absurd q (by decide)
    refine ⟨⟨fun z => ?_, fun z => absurd z ne⟩, ⟨fun _ => q, fun _ => ne⟩⟩
    rw [h] at z; exact absurd z (nI_ge (a := 0) q (by omega))
theorem ag1_W {a : Nat} (W : WI S C n np nl T sz A dd noH 8 8) (ha : a < n) : (C 50 a = 1 → WI (ag1 S a) (sndC C nl 0 (nI a) (C 51 a) (C 18 a) (-1) (fun _ => 0)) n np (nlS nl) T (lu sz 8 0 (nlS nl)) A dd noH 8 8) ∧ (C 50 a ≠ 1 → ag1 S a = S) := by
  obtain ⟨w1, B, M, IXh, LVs, CDh, Z5h⟩ := id W
  have n8 := B.1.2.1
  have D := IXh.1
  obtain ⟨st2, st1⟩ := stg_iy M n8 ha
  refine ⟨fun q => ?_, fun q => ?_⟩
  · obtain ⟨y1, y2⟩ := st1.mp q
    rcases D.2.2.1.1 a ⟨ha, y1⟩ (fun y => y.2 y2) with y | ⟨b, y⟩
    · exact absurd y id
    · have hb := (D.1.2.2.2.2.2.1 a b y).2.2.2.2.1
      have e19 := y.2.2
      have c51 := (M.2.2.1 a ha).2 (by rw [e19]; exact nI_m1' (by omega))
      have e1 : ag1 S a = pstS S 0 (nI a) (nI b) (S 18 a) := by unfold ag1; rw [e19, if_neg (nI_pos (by omega))]
      rw [e1, c51, e19, (M.2.1 a ha).2.2.2.2.2.2.1]
      exact post_W W (PS_pst B.1.2.2.2.2.1 B.1.2.2.2.2.2.1) (fun _ => ⟨a, b, ha, hb, rfl, rfl, Or.inl ⟨rfl, rfl, fun _ => ⟨y, rfl⟩⟩⟩) (fun _ => rfl) (fun _ e => absurd e (by decide)) (fun _ e => absurd e (by decide))
  · unfold ag1
    rcases (B.2.2.2.2.2.2.2.2.2.1 a (by omega)).2.2.2.2.1 with z | ⟨b, z1, z2⟩
    · rw [z, if_pos (by decide)]
    · have y := D.1.2.2.2.2.2.1 a b ⟨ha, by omega, z2⟩
      exact absurd (st1.mpr ⟨y.1.2, Decidable.byContradiction (fun y2 => y.2.1 ⟨ha, y2⟩)⟩) q
theorem par_ix {a : Nat} (B : BI S n np nl T) (ha : a < n) : S 16 a = -1 ∨ ∃ p, p < n ∧ S 16 a = nI p := (B.2.2.2.2.2.2.2.2.2.1 a (by have := B.1.2.1; omega)).2.2.2.1
theorem ag2_W {a : Nat} (W : WI S C n np nl T sz A dd noH 8 8) (ha : a < n) : (C 50 a = 2 ∧ C 16 a ≠ -1 → WI (ag2 S a) (sndC C nl 1 (nI a) (C 16 a) (C 18 a) (-1) (fun _ => 0)) n np (nlS nl) T (lu sz 8 0 (nlS nl)) A dd noH 8 8) ∧ (¬ (C 50 a = 2 ∧ C 16 a ≠ -1) → ag2 S a = S) := by
  obtain ⟨w1, B, M, IXh, LVs, CDh, Z5h⟩ := id W
  have n8 := B.1.2.1
  have D := IXh.1
  obtain ⟨st2, st1⟩ := stg_iy M n8 ha
  have g := M.2.1 a ha
  have c16 := g.2.2.2.2.1
  refine ⟨fun q => ?_, fun q => ?_⟩
  · obtain ⟨y1, y2⟩ := st2.mp q.1
    obtain ⟨p, hp, ep⟩ := (par_ix B ha).resolve_left (fun z => q.2 (c16.trans z))
    have e1 : ag2 S a = pstS S 1 (nI a) (nI p) (S 18 a) := by
      unfold ag2; rw [ep, if_neg (fun z => z.elim y2 (nI_pos (by omega)))]
    rw [e1, c16, ep, g.2.2.2.2.2.2.1]
    exact post_W W (PS_pst B.1.2.2.2.2.1 B.1.2.2.2.2.2.1) (fun _ => ⟨a, p, ha, hp, rfl, rfl, Or.inr (Or.inl ⟨rfl, rfl, ⟨ha, y2⟩, ⟨ha, by omega, ep⟩, rfl⟩)⟩) (fun _ => rfl) (fun _ e => absurd e (by decide)) (fun _ e => absurd e (by decide))
  · unfold ag2
    refine if_pos ?_
    rcases par_ix B ha with z | ⟨p, hp, ep⟩
    · exact Or.inr (by rw [z]; decide)
    · refine Or.inl (Decidable.byContradiction (fun y => q ⟨st2.mpr ⟨(D.1.2.1 a ⟨ha, y⟩).2, y⟩, by rw [c16, ep]; exact nI_m1' (by omega)⟩))
theorem ag3_W {a : Nat} (W : WI S C n np nl T sz A dd noH 8 8) (ha : a < n) : (C 57 a ≠ -1 ∧ C 16 a ≠ -1 → WI (ag3 S a) (sndC C nl 2 (nI a) (C 16 a) (C 23 a) (C 57 a) (fun i => C 58 (256 * a + i))) n np (nlS nl) T (lu sz 8 0 (nlS nl)) A dd noH 8 8) ∧ (¬ (C 57 a ≠ -1 ∧ C 16 a ≠ -1) → ag3 S a = S) := by
  obtain ⟨w1, B, M, IXh, LVs, CDh, Z5h⟩ := id W
  have n8 := B.1.2.1
  have hI := (IX8 n8).mp IXh
  have D := hI.1
  have E := hI.2.1
  have g := M.2.1 a ha
  have c16 := g.2.2.2.2.1
  have mt := M.2.2.2.2.1 a ha
  have nn23 := (B.2.2.2.2.2.2.2.2.2.1 a (by omega)).2.2.2.2.2.2.2.2.2.1
  have BT := B.2.2.2.2.2.2.2.2.2.2.2
  obtain ⟨p1, p2⟩ := nn_pos nn23.1 nn23.2 (by omega)
  have vt : vtr S n a = N S 23 a := by unfold vtr; rw [if_pos ha]
  refine ⟨fun q => ?_, fun q => ?_⟩
  · have n23 : S 23 a ≠ 0 := fun z => q.1 (by rw [mt.1, if_pos z])
    have t0 : 0 < vtr S n a := by rw [vt]; exact p2.mp n23
    have t := hI.2.2.2.1.1 a t0
    obtain ⟨p, hp, ep⟩ := (par_ix B ha).resolve_left (fun z => q.2 (c16.trans z))
    have hpa : vpa S n a p := ⟨ha, by omega, ep⟩
    have e1 : ag3 S a = ptS S a := by unfold ag3; rw [ep, if_neg (fun z => z.elim (fun z => n23 (p1.mp z)) (nI_pos (by omega)))]
    have n25 : N S 25 a = wd S a := N_nI t.2.1 (by have := t.2.2.1; omega)
    obtain ⟨P, Pc⟩ := PS_pt (S := S) (k := a) B.1.2.2.2.2.1 B.1.2.2.2.2.2.1 (by rw [n25]; exact t.2.2.1)
    rw [n25] at Pc
    rw [t.2.1, t.1, ep] at P
    rw [e1, c16, ep, g.2.2.2.2.2.2.2.2.1, mt.1, if_neg n23, t.2.1]
    have b26 : ∀ i, i < wd S a → S 26 (256 * a + i) = nI (S 26 (256 * a + i)).toNatClampNeg ∧ (S 26 (256 * a + i)).toNatClampNeg ≤ 1048576 := fun i hi => B.2.2.2.2.2.2.1 _ (by have := t.2.2.1; omega)
    refine post_W W P (fun z => ⟨a, p, ha, hp, rfl, rfl, Or.inr (Or.inr (Or.inl ⟨rfl, E.1.1 a t0, hpa, rfl, rfl, t.2.2.1, fun i hi => by
      show ptS S a 41 (256 * nl + i) = nI (ptS S a 41 (256 * nl + i)).toNatClampNeg ∧ (ptS S a 41 (256 * nl + i)).toNatClampNeg ≤ 1048576
      rw [Pc z i hi]; exact b26 i hi, vtr S n a, t0, by rw [vt]; have := nn23.2; omega, by rw [vt]; exact nn23.1, ?_⟩))⟩) (fun _ => rfl) (fun z _ => ⟨by rw [nI_clamp (by have := t.2.2.1; omega)]; exact t.2.2.1, fun i hi => ?_⟩) (fun _ e => absurd e (by decide))
    · by_cases y : vtr S n a = vR S a
      · exact Or.inr ⟨rfl, y, fun i hi => Pc z i hi⟩
      · refine Or.inl ?_
        rcases Nat.lt_or_ge (vtq S n a) (vtr S n a) with w | w
        · exact absurd (E.1.2.2.2.2.2.1 a p hpa w) y
        · exact w
    · rw [nI_clamp (by have := t.2.2.1; omega)] at hi
      rw [mt.2 n23 i (by rw [n25]; exact hi), Pc z i hi]
  · unfold ag3
    refine if_pos ?_
    rcases par_ix B ha with z | ⟨p, hp, ep⟩
    · exact Or.inr (by rw [z]; decide)
    · refine Or.inl (p1.mpr (Decidable.byContradiction (fun y => q ⟨?_, by rw [c16, ep]; exact nI_m1' (by omega)⟩)))
      have t := hI.2.2.2.1.1 a (by rw [vt]; exact p2.mp y)
      rw [mt.1, if_neg y, t.2.1]; exact nI_m1' (by have := t.2.2.1; omega)
theorem ag4_W {a : Nat} (W : WI S C n np nl T sz A dd noH 8 8) (ha : a < n) : (C 59 a ≠ -1 → WI (ag4 S a (N S 21 a)) (scC C a nl (N S 21 a)) n np (snl nl (N S 21 a)) T (lu sz 8 0 (snl nl (N S 21 a))) A dd noH 8 8 ∧ C 52 a = nI (N S 21 a) ∧ sz 4 a = N S 21 a ∧ N S 21 a ≤ 7 ∧ ∀ k, k < N S 21 a → ∃ b, b < sz 1 0 ∧ C 53 (8 * a + k) = nI b) ∧ (C 59 a = -1 → ag4 S a (N S 21 a) = S) := by
  obtain ⟨w1, B, M, IXh, LVs, CDh, Z5h⟩ := id W
  have n8 := B.1.2.1
  have hI := (IX8 n8).mp IXh
  have D := hI.1
  have E := hI.2.1
  have mk := M.2.2.2.2.2.1 a ha
  have nn28 := (B.2.2.2.2.2.2.2.2.2.1 a (by omega)).2.2.2.2.2.2.2.1
  have BT := B.2.2.2.2.2.2.2.2.2.2.2
  obtain ⟨p1, p2⟩ := nn_pos nn28.1 nn28.2 (by omega)
  have vs : vst S n a = N S 28 a := by unfold vst; rw [if_pos ha]
  refine ⟨fun q => ?_, fun q => ?_⟩
  · have n28 : S 28 a ≠ 0 := fun z => q (by rw [mk.1, if_pos z])
    have s0 : 1 ≤ vst S n a := by rw [vs]; exact p2.mp n28
    have tha := E.1.1 a ((E.2.2.2.1 a).2 s0)
    have e1 : ag4 S a (N S 21 a) = pcF S a (N S 21 a) := by unfold ag4; rw [if_neg (fun z => n28 (p1.mp z))]
    have cw := cw_of B M D ha tha
    rw [e1]
    exact ⟨choices_W W ha n8 s0 _ (Nat.le_refl _), cw.2.2.2.2.2.2.2.1, cw.2.2.2.2.2.2.2.2.1, (B.2.2.2.2.2.2.2.2.2.1 a (by omega)).2.2.2.2.2.1.2, fun k hk => by obtain ⟨b, z1, z2⟩ := cw.2.2.2.2.2.2.2.2.2.2 k hk; exact ⟨b, by rw [M.1.2.2.2.2.2.1]; exact z1, z2⟩⟩
  · unfold ag4
    refine if_pos (p1.mpr (Decidable.byContradiction (fun y => ?_)))
    rw [mk.1, if_neg y] at q
    exact absurd q (by decide)
end
