/-! THE LAW: what holds between two calls. Written by wip/whole/gen/p88.py -/
section
variable {Γ : jm_G} {h h' h1 : jm_H} {x m o b ln K : Nat} {L : Nat → Nat → Nat} {ρ ρ' : Nat → Nat} {sz : Nat → Nat → Nat} {S C : mS} {ar : Nat → Nat} {xs : Nat → Int32}
theorem co_mv (hc : co Γ h x L ρ sz C) (hh : ∀ p, h.1 p ≠ none → ρ p ≠ 6 → h'.1 p = h.1 p ∧ ρ' p = ρ p ∧ ∀ t i, h'.2 t i p = h.2 t i p) : co Γ h' x L ρ' sz C := by
  obtain ⟨c1, c2, c3, c4, c5, cb⟩ := hc
  have f0 : ∀ q, h.1 q ≠ none → ρ q = 0 → h'.1 q = h.1 q ∧ ρ' q = ρ q ∧ ∀ t i, h'.2 t i q = h.2 t i q := fun q hq hr => hh q hq (fun e => by rw [hr] at e; cases e)
  have tb : ∀ {v : Value} {w : Int32} {f : Nat → Int32}, TB h ρ v w f → TB h' ρ' v w f := fun hT => TB.fr f0 hT
  have cell : ∀ r i, cV sz r i → h'.1 (cA x L r i) = h.1 (cA x L r i) ∧ ρ' (cA x L r i) = ρ (cA x L r i) ∧ ∀ t j, h'.2 t j (cA x L r i) = h.2 t j (cA x L r i) := fun r i hv => by
    obtain ⟨q1, q2, -⟩ := c1 r i hv
    exact hh _ (by rw [q1]; exact fun e => by cases e) (by rw [q2]; exact (cR_pos hv).2)
  have k2 : ∀ p kn r, h.1 p = some kn → ρ p = r → r ≠ 6 → h'.1 p = some kn ∧ ρ' p = r := fun p kn r e1 e2 e3 => by
    have g := hh p (by rw [e1]; exact fun e => by cases e) (by rw [e2]; exact e3)
    exact ⟨g.1.trans e1, g.2.1.trans e2⟩
  refine ⟨fun r i hv => ?_, ?_, fun a ha => ?_, fun i hv => ?_, fun k hk => LET.fr f0 (c5 k hk), cb⟩
  · obtain ⟨q1, q2, q3⟩ := c1 r i hv
    obtain ⟨g1, g2, g3⟩ := cell r i hv
    exact ⟨g1.trans q1, g2.trans q2, (g3 _ _).trans q3⟩
  · obtain ⟨e1, e2, e3, e4, e5, e6, e7⟩ := c2
    obtain ⟨f1, f2⟩ := k2 _ _ _ e1 e2 (by decide)
    obtain ⟨f3, f4⟩ := k2 _ _ _ e3 e4 (by decide)
    obtain ⟨f5, f6⟩ := k2 _ _ _ e5 e6 (by decide)
    exact ⟨f1, f2, f3, f4, f5, f6, fun a ha => k2 _ _ _ (e7 a ha).1 (e7 a ha).2 (by omega)⟩
  · obtain ⟨g1, g2, g3⟩ := cell 3 a ha
    have g3' : ∀ t j, h'.2 t j (L 1 a) = h.2 t j (L 1 a) := g3
    rw [g3', g3']
    exact ⟨tb (c3 a ha).1, tb (c3 a ha).2⟩
  · obtain ⟨g1, g2, g3⟩ := cell 53 i hv
    have g3' : ∀ t j, h'.2 t j (L 4 i) = h.2 t j (L 4 i) := g3
    rw [g3']
    exact tb (c4 i hv)
theorem kd_ne (j : Nat) : mo_kd j ≠ 102 ∧ mo_kd j ≠ 150 ∧ mo_kd j ≠ 0 := by
  unfold mo_kd; split <;> decide
/-- the reference's object is another than these -/
theorem mo_nq {q k n : Nat} (hm : mo h m ar S) (hq : h.1 q = some (k, n)) (hk : k = 102 ∨ k = 150) : q ≠ m ∧ ∀ j, j < 42 → 0 < mo_len j → q ≠ ar j := by
  refine ⟨fun e => ?_, fun j hj hl e => ?_⟩
  · rw [e, hm.1] at hq
    have := congrArg Prod.fst (Option.some.inj hq)
    have : (6 : Nat) = k := this
    omega
  · rw [e, (hm.2.2.1 j hj hl).2.1] at hq
    have : mo_kd j = k := congrArg Prod.fst (Option.some.inj hq)
    have g := kd_ne j
    omega
theorem mo_xo (hm : mo h m ar S) (r6 : ρ m = 6) (a6 : ∀ j, j < 42 → 0 < mo_len j → ρ (ar j) = 6) (ho : h.1 o = some (102, 1)) (hx : xo o ρ h ρ' h') : mo h' m ar S ∧ ρ' m = 6 ∧ ∀ j, j < 42 → 0 < mo_len j → ρ' (ar j) = 6 := by
  obtain ⟨n1, n2⟩ := mo_nq hm ho (Or.inl rfl)
  obtain ⟨m1, m2, m3, m4⟩ := hm
  obtain ⟨g1, g2, g3⟩ := hx m (by rw [m1]; exact fun e => by cases e)
  have g3 := g3 (Ne.symm n1) (Or.inr r6)
  refine ⟨⟨g1.trans m1, fun j hj hl => (g3 _ _).trans (m2 j hj hl), fun j hj hl => ?_, m4⟩, g2.trans r6, fun j hj hl => ?_⟩
  · obtain ⟨k1, k2, k3⟩ := m3 j hj hl
    obtain ⟨f1, f2, f3⟩ := hx (ar j) (by rw [k2]; exact fun e => by cases e)
    have f3 := f3 (Ne.symm (n2 j hj hl)) (Or.inr (a6 j hj hl))
    exact ⟨(g3 _ _).trans k1, f1.trans k2, fun i hi => (f3 _ _).trans (k3 i hi)⟩
  · obtain ⟨k1, k2, k3⟩ := m3 j hj hl
    exact (hx (ar j) (by rw [k2]; exact fun e => by cases e)).2.1.trans (a6 j hj hl)
/-- between two calls -/
def LI (Γ : jm_G) (b o x m ln : Nat) (xs : Nat → Int32) (K : Nat) (h : jm_H) : Prop :=
  ∃ L ρ sz C ar S n np nl T, co Γ h x L ρ sz C ∧ mo h m ar S ∧ INV S C n np nl T sz ∧ (1 ≤ T ∧ T ≤ K) ∧ (ρ m = 6 ∧ ∀ j, j < 42 → 0 < mo_len j → ρ (ar j) = 6) ∧ (h.1 o = some (102, 1) ∧ ρ o = 6) ∧ h.1 b = some (150, ln) ∧ ρ b = 6 ∧ ∀ i, i < ln → h.2 100 i b = .int (xs i)
/-- the class has been asked -/
theorem li_x (hb : h.1 b = some (150, ln)) (b6 : ρ b = 6) (hxs : ∀ i, i < ln → h.2 100 i b = .int (xs i)) (ho : h.1 o = some (102, 1)) (o6 : ρ o = 6) (hx : xo o ρ h ρ' h') : h'.1 b = some (150, ln) ∧ ρ' b = 6 ∧ (∀ i, i < ln → h'.2 100 i b = .int (xs i)) ∧ h'.1 o = some (102, 1) ∧ ρ' o = 6 := by
  obtain ⟨g1, g2, g3⟩ := hx b (by rw [hb]; exact fun e => by cases e)
  obtain ⟨f1, f2, -⟩ := hx o (by rw [ho]; exact fun e => by cases e)
  have ne : b ≠ o := fun e => by rw [e, ho] at hb; cases hb
  exact ⟨g1.trans hb, g2.trans b6, fun i hi => (g3 ne (Or.inr b6) _ _).trans (hxs i hi), f1.trans ho, f2.trans o6⟩
/-- the reference has been asked -/
theorem li_m {S' : mS} {n np nl T : Nat} (hc : co Γ h x L ρ sz C) (hm : mo h m ar S) (r6 : ρ m = 6) (a6 : ∀ j, j < 42 → 0 < mo_len j → ρ (ar j) = 6) (ho : h.1 o = some (102, 1)) (o6 : ρ o = 6) (hb : h.1 b = some (150, ln)) (b6 : ρ b = 6) (hxs : ∀ i, i < ln → h.2 100 i b = .int (xs i))
    (hm' : mo h' m ar S') (hf : mo_fr m ar h h') (hI : INV S' C n np nl T sz) (hT : 1 ≤ T ∧ T ≤ K) : LI Γ b o x m ln xs K h' ∧ ∀ t i, h'.2 t i o = h.2 t i o := by
  obtain ⟨n1, n2⟩ := mo_nq hm ho (Or.inl rfl)
  obtain ⟨p1, p2⟩ := mo_nq hm hb (Or.inr rfl)
  refine ⟨⟨L, ρ, sz, C, ar, S', n, np, nl, T, co_mv hc (fun p _ h6 => ⟨by rw [hf.1], rfl, hf.2 p (fun e => h6 (by rw [e]; exact r6)) (fun j hj hl e => h6 (by rw [e]; exact a6 j hj hl))⟩), hm', hI, hT, ⟨r6, a6⟩, ⟨by rw [hf.1]; exact ho, o6⟩, by rw [hf.1]; exact hb, b6, fun i hi => (hf.2 b p1 p2 _ _).trans (hxs i hi)⟩, hf.2 o n1 n2⟩
theorem kc2_0 {r : jm_O} (h : kc2 r = 0) : ∃ v, r = .inl v := by
  match r with
  | .inl v => exact ⟨v, rfl⟩
  | .inr 0 => exact absurd h (by decide)
  | .inr (k + 1) => exact absurd (show (2 : Int32) = 0 from h) (by decide)
theorem kcS_0 {r : jm_O} (h : kcS r = 0) : ∃ v, r = .inl v := by
  match r with
  | .inl v => exact ⟨v, rfl⟩
  | .inr k => exact absurd (show (1 : Int32) = 0 from h) (by decide)
theorem kc3_0 {r : jm_O} (h : kc3 r = 0) : ∃ v, r = .inl v := by
  match r with
  | .inl v => exact ⟨v, rfl⟩
  | .inr 0 => exact absurd h (by decide)
  | .inr 1 => exact absurd h (by decide)
  | .inr 2 => exact absurd h (by decide)
  | .inr (k + 3) => exact absurd (show (3 : Int32) = 0 from h) (by decide)
theorem and15 (v : Int32) : ∃ j, j < 16 ∧ v &&& 15 = nI j := by
  refine ⟨(v &&& 15).toBitVec.toNat, ?_, ?_⟩
  · rw [Int32.toBitVec_and, BitVec.toNat_and]
    exact Nat.lt_of_le_of_lt Nat.and_le_right (by decide)
  · apply Int32.toBitVec_inj.mp
    show _ = BitVec.ofNat 32 _
    rw [BitVec.ofNat_toNat, BitVec.setWidth_eq]
theorem sub6 {i ln : Nat} (hi : i < 2 ^ 31) (hl : ln < 2 ^ 31) : ¬ nI ln - 6 < nI i ↔ i + 6 ≤ ln := by
  have e6 : (nI ln - 6).toInt = (ln : Int) - 6 := by
    rw [Int32.toInt_sub, nI_toInt hl]
    show ((ln : Int) - 6).bmod (2 ^ 32) = _
    rw [Int.bmod_eq_of_le (by omega) (by omega)]
  rw [Int32.lt_iff_toInt_lt, e6, nI_toInt hi]
  omega
end
