/-! SIMULATION S1. Laid by wip/whole/gen/p71.py -/
section
variable {S C : mS} {n np nl T : Nat} {sz : Nat → Nat → Nat}
theorem i32_k {z : Int32} (h : 2 ≤ z ∧ z ≤ 4) : ∃ k, 2 ≤ k ∧ k ≤ 4 ∧ z = nI k := by
  obtain ⟨j, hj, rfl⟩ := nI_of (x := z) (fun q => absurd (Int32.le_trans h.1 (Int32.le_of_lt q)) (by decide))
  refine ⟨j, ?_, ?_, rfl⟩
  · exact (nI_leI (a := 2) (by omega) hj).mp h.1
  · exact (nI_leI (b := 4) hj (by omega)).mp h.2
theorem agent_step (h : INV S C n np nl T sz) (hs : S 2 0 = 0) (hn : n < 8) {z : Int32} (hz : 2 ≤ z ∧ z ≤ 4) :
    INV (mu (mu (mu S 0 0 0) 3 n z) 1 0 (nI (n + 1))) (mu (nwA C n z) 1 0 (nI (n + 1))) (n + 1) np nl T (lu sz 1 0 (n + 1)) := by
  obtain ⟨kz, k2, k4, ez⟩ := i32_k hz
  have pre := inv_pre h hs
  obtain ⟨B, M, -⟩ := h
  obtain ⟨⟨b1, b2, b3, b4, b5, b6, b7⟩, B3, B2, BP, B4, B8, B26, B9, BN, BA, BC, BT⟩ := B
  obtain ⟨M1, MG, ME, MC, MT, MK, MO, MP, MQ, ML⟩ := M
  have rw1 : ∀ j, j ≠ 0 → j ≠ 1 → j ≠ 3 → (mu (mu (mu S 0 0 0) 3 n z) 1 0 (nI (n + 1))) j = S j := fun j q0 q1 q3 => by
    rw [mu_row q1, mu_row q3, mu_row q0]
  have r3 : ∀ a, (mu (mu (mu S 0 0 0) 3 n z) 1 0 (nI (n + 1))) 3 a = if a = n then z else S 3 a := fun a => by simp [mu]
  have p0 := fun a (ha : a < 8) => pre_rows pre ha
  have nbx : ∀ x y, vnb (mu (mu (mu S 0 0 0) 3 n z) 1 0 (nI (n + 1))) (n + 1) x y ↔ vnb S n x y := fun x y => by
    unfold vnb
    rw [rw1 9 (by decide) (by decide) (by decide)]
    refine ⟨fun q => ⟨?_, q.2⟩, fun q => ⟨by omega, q.2⟩⟩
    rcases Nat.lt_or_ge x n with y | y
    · exact y
    · have := q.2.2; rw [pre.2.2.1 x y] at this; exact absurd this (cI_0 q.2.1)
  have rC : ∀ j a, j ≠ 1 → a ≠ n → (mu (nwA C n z) 1 0 (nI (n + 1))) j a = nwA C n z j a := fun j a q _ => by rw [mu_row q]
  refine ⟨?_, ?_, Or.inl ⟨by rw [rw1 2 (by decide) (by decide) (by decide)]; exact hs, ?_⟩⟩
  · refine ⟨⟨by simp [mu], by omega, by rw [rw1 5 (by decide) (by decide) (by decide)]; exact b3, b4, by rw [rw1 34 (by decide) (by decide) (by decide)]; exact b5, b6, by rw [rw1 2 (by decide) (by decide) (by decide)]; exact b7⟩, ?_, ?_, ?_, ?_, ?_, ?_, ?_, ?_, ?_, ?_, BT⟩
    · intro a ha
      unfold nn N
      rw [r3]
      by_cases q : a = n
      · rw [if_pos q, ez, nI_clamp (by omega)]; exact ⟨rfl, k4⟩
      · rw [if_neg q]; exact B3 a ha
    · intro a ha
      unfold N
      rw [r3]
      by_cases q : a = n
      · rw [if_pos q, ez, nI_clamp (by omega)]; exact k2
      · rw [if_neg q]; exact B2 a (by omega)
    · intro p hp
      obtain ⟨f, g, q1, q2, q3, q4, q5⟩ := BP p hp
      rw [rw1 6 (by decide) (by decide) (by decide), rw1 7 (by decide) (by decide) (by decide)]
      exact ⟨f, g, by omega, by omega, q3, q4, (nbx _ _).mpr q5⟩
    · simp only [nn, N]; rw [rw1 4 (by decide) (by decide) (by decide)]; exact B4
    · simp only [nn, N]; rw [rw1 8 (by decide) (by decide) (by decide)]; exact B8
    · simp only [nn, N]; rw [rw1 26 (by decide) (by decide) (by decide)]; exact B26
    · rw [rw1 9 (by decide) (by decide) (by decide)]; exact B9
    · intro x y q
      have := BN x y ((nbx x y).mp q)
      exact ⟨(nbx y x).mpr this.1, this.2.1, by omega⟩
    · intro a ha
      have := BA a ha
      simp only [nn, N]
      rw [rw1 13 (by decide) (by decide) (by decide), rw1 14 (by decide) (by decide) (by decide), rw1 15 (by decide) (by decide) (by decide), rw1 16 (by decide) (by decide) (by decide), rw1 19 (by decide) (by decide) (by decide), rw1 21 (by decide) (by decide) (by decide), rw1 12 (by decide) (by decide) (by decide), rw1 28 (by decide) (by decide) (by decide), rw1 29 (by decide) (by decide) (by decide), rw1 23 (by decide) (by decide) (by decide)]
      exact ⟨this.1, this.2.1, this.2.2.1, Or.inl (p0 a ha).2.2.2.2.1, Or.inl (p0 a ha).2.2.2.2.2.2.2.1, this.2.2.2.2.2⟩
    · intro a k ha hk
      exfalso
      unfold N at hk
      rw [rw1 21 (by decide) (by decide) (by decide), (p0 a (by omega)).2.2.2.2.2.2.2.2.1] at hk
      exact absurd hk (Nat.not_lt_zero _)
  · refine ⟨?_, ?_, ?_, ?_, ?_, ?_, ?_, ?_, ?_, ?_⟩
    · obtain ⟨m1, m2, m3, m4, m5, m6, m7, m8⟩ := M1
      refine ⟨by simp [mu], ?_, ?_, ?_, ?_, by simp [lu], by simp [lu]; exact m7, by simp [lu]; exact m8⟩
      · rw [mu_row (by decide)]; simp [nwA, isA]; exact m2
      · rw [mu_row (by decide)]; simp [nwA, isA]; exact m3
      · rw [mu_row (by decide), rw1 2 (by decide) (by decide) (by decide)]; simp [nwA, isA]; exact m4
      · rw [mu_row (by decide), rw1 27 (by decide) (by decide) (by decide)]; simp [nwA, isA]; exact m5
    · intro a ha
      rw [r3, rw1 9 (by decide) (by decide) (by decide), rw1 10 (by decide) (by decide) (by decide), rw1 15 (by decide) (by decide) (by decide), rw1 16 (by decide) (by decide) (by decide), rw1 17 (by decide) (by decide) (by decide), rw1 18 (by decide) (by decide) (by decide), rw1 22 (by decide) (by decide) (by decide), rw1 23 (by decide) (by decide) (by decide), rw1 28 (by decide) (by decide) (by decide)]
      rw [mu_row (by decide), mu_row (by decide), mu_row (by decide), mu_row (by decide), mu_row (by decide), mu_row (by decide), mu_row (by decide), mu_row (by decide), mu_row (by decide), mu_row (by decide)]
      by_cases q : a = n
      · have p := p0 a (by omega)
        rw [if_pos q, pre.2.2.1 a (by omega), p.1, p.2.2.2.1, p.2.2.2.2.1, p.2.2.2.2.2.1, p.2.2.2.2.2.2.1, p.2.2.2.2.2.2.2.2.2.1, p.2.2.2.2.2.2.2.2.2.2.1, p.2.2.2.2.2.2.2.2.2.2.2.2.1]
        simp [nwA, isA, aval, q]
      · have g := MG a (by omega)
        rw [if_neg q]
        simp [nwA, isA, q]
        exact g
    · intro a ha
      rw [rw1 19 (by decide) (by decide) (by decide)]
      rw [mu_row (by decide), mu_row (by decide)]
      have p := p0 a (by omega)
      refine ⟨fun q8 => ?_, fun q => absurd p.2.2.2.2.2.2.2.1 q⟩
      unfold stg
      rw [rw1 13 (by decide) (by decide) (by decide), if_pos p.2.1]
      by_cases q : a = n
      · simp [nwA, isA, aval, q]
      · have g := (ME a (by omega)).1 q8
        unfold stg at g
        rw [if_pos p.2.1] at g
        simp [nwA, isA, q]
        exact g
    · intro a ha
      have p := p0 a (by omega)
      have c0 : chn (mu (mu (mu S 0 0 0) 3 n z) 1 0 (nI (n + 1))) a = 0 := by
        unfold chn N
        rw [rw1 21 (by decide) (by decide) (by decide), rw1 19 (by decide) (by decide) (by decide), p.2.2.2.2.2.2.2.2.1, if_pos p.2.2.2.2.2.2.2.1]; rfl
      have c0' : chn S a = 0 := by
        unfold chn N
        rw [p.2.2.2.2.2.2.2.2.1, if_pos p.2.2.2.2.2.2.2.1]; rfl
      rw [c0]
      refine ⟨?_, ?_, fun k hk => absurd hk (Nat.not_lt_zero _)⟩
      · rw [mu_row (by decide)]
        by_cases q : a = n
        · simp [nwA, isA, aval, q]; rfl
        · have g := (MC a (by omega)).1
          rw [c0'] at g
          simp [nwA, isA, q]; exact g
      · simp [lu]; exact pre.2.2.2.2.2.1 a
    · intro a ha
      have p := p0 a (by omega)
      rw [rw1 23 (by decide) (by decide) (by decide), if_pos p.2.2.2.2.2.2.2.2.2.2.1, mu_row (by decide)]
      refine ⟨?_, fun q => absurd p.2.2.2.2.2.2.2.2.2.2.1 q⟩
      by_cases q : a = n
      · simp [nwA, isA, aval, q]
      · have g := (MT a (by omega)).1
        rw [if_pos p.2.2.2.2.2.2.2.2.2.2.1] at g
        simp [nwA, isA, q]; exact g
    · intro a ha
      have p := p0 a (by omega)
      rw [rw1 28 (by decide) (by decide) (by decide), if_pos p.2.2.2.2.2.2.2.2.2.2.2.2.1, mu_row (by decide)]
      refine ⟨?_, fun q => absurd p.2.2.2.2.2.2.2.2.2.2.2.2.1 q⟩
      by_cases q : a = n
      · simp [nwA, isA, aval, q]
      · have g := (MK a (by omega)).1
        rw [if_pos p.2.2.2.2.2.2.2.2.2.2.2.2.1] at g
        simp [nwA, isA, q]; exact g
    · intro i hi
      rw [rw1 4 (by decide) (by decide) (by decide), mu_row (by decide)]
      rcases Nat.lt_or_ge i (4 * n) with q | q
      · have : nwA C n z 4 i = C 4 i := by simp [nwA, isA]; omega
        rw [this]; exact MO i q
      · have : nwA C n z 4 i = 0 := by simp [nwA, isA]; omega
        rw [this, pre.2.2.2.1 i q]; rfl
    · intro p hp f g hf hg q1 q2
      rw [rw1 6 (by decide) (by decide) (by decide)] at q1
      rw [rw1 7 (by decide) (by decide) (by decide)] at q2
      rw [rw1 8 (by decide) (by decide) (by decide), mu_row (by decide), mu_row (by decide), mu_row (by decide)]
      have := MP p hp f g hf hg q1 q2
      simp only [nwA, isA]
      simp
      exact this
    · refine ⟨fun a q ha hq e => ?_, fun q hq e => ?_⟩
      · rw [rw1 10 (by decide) (by decide) (by decide), (p0 a (by omega)).1] at e
        exact absurd e.symm (nI_m1' (by omega))
      · simp [lu] at e; exact absurd e (pre.2.2.2.2.2.2 q)
    · intro k hk; rw [pre.1] at hk; exact absurd hk (Nat.not_lt_zero _)
  · refine ⟨pre.1, fun j q1 q2 => by rw [rw1 j (by omega) (by omega) (by omega)]; exact pre.2.1 j q1 q2, fun a ha => by rw [rw1 9 (by decide) (by decide) (by decide)]; exact pre.2.2.1 a (by omega), fun i hi => by rw [rw1 4 (by decide) (by decide) (by decide)]; exact pre.2.2.2.1 i (by omega), fun i hi => by rw [rw1 8 (by decide) (by decide) (by decide)]; exact pre.2.2.2.2.1 i hi, fun a => by simp [lu]; exact pre.2.2.2.2.2.1 a, fun p => by simp [lu]; exact pre.2.2.2.2.2.2 p⟩
end
