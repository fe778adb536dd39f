/-! SIMULATION E1. Laid by wip/whole/gen/p71.py -/
/-- a cost of the class beside a cost of the reference: the same and at most B, or never -/
def re (x : Int32) (m B : Nat) : Prop := (m ≤ B ∧ x = nI m) ∨ (1048576 ≤ m ∧ x = -2)
def un (x : Int32) : Int32 := if x = 1048576 then -2 else x
theorem re_mono {x : Int32} {m B B' : Nat} (h : re x m B) (hB : B ≤ B') : re x m B' := h.imp_left (fun q => ⟨Nat.le_trans q.1 hB, q.2⟩)
theorem nI_ne2 {n : Nat} (h : n < 2 ^ 31) : nI n ≠ -2 := fun q => absurd (show nI n < 0 by rw [q]; decide) (nI_pos h)
theorem nI_inj {a b : Nat} (ha : a < 2 ^ 31) (hb : b < 2 ^ 31) (h : nI a = nI b) : a = b := by
  have := congrArg Int32.toInt h
  rw [nI_toInt ha, nI_toInt hb] at this
  omega
theorem re_plus {x y : Int32} {m k B D : Nat} (h1 : re x m B) (h2 : re y k D) (hB : B + D < 1048576) : re (plusI x y) (m + k) (B + D) := by
  rcases h1 with ⟨p, q⟩ | ⟨p, q⟩
  · rcases h2 with ⟨p', q'⟩ | ⟨p', q'⟩
    · refine Or.inl ⟨by omega, ?_⟩
      have e : ¬ (x = -2 ∨ y = -2) := by
        rw [q, q']
        exact fun z => z.elim (nI_ne2 (by omega)) (nI_ne2 (by omega))
      show (if x = -2 ∨ y = -2 then -2 else x + y) = _
      rw [if_neg e, q, q', nI_add]
    · exact Or.inr ⟨by omega, if_pos (Or.inr q')⟩
  · exact Or.inr ⟨by omega, if_pos (Or.inl q)⟩
theorem re_un {x : Int32} {m B : Nat} (h : re x m B) (hB : B < 1048576) : x = un (nI (if m ≤ 1048576 then m else 1048576)) := by
  rcases h with ⟨p, q⟩ | ⟨p, q⟩
  · rw [if_pos (by omega), un, if_neg (fun e => by have := nI_inj (b := 1048576) (by omega) (by omega) e; omega), q]
  · have : (if m ≤ 1048576 then m else 1048576) = 1048576 := by split <;> omega
    rw [this, q]; rfl
theorem un_re {m B : Nat} (h : m ≤ 1048576) (hB : m < 1048576 → m ≤ B) : re (un (nI m)) m B := by
  by_cases e : m = 1048576
  · subst e; exact Or.inr ⟨Nat.le_refl _, rfl⟩
  · refine Or.inl ⟨hB (by omega), ?_⟩
    have k : nI m ≠ 1048576 := fun q => e (nI_inj (b := 1048576) (by omega) (by omega) q)
    rw [un, if_neg k]
/-- pair p of both sides -/
def prR (S C : mS) (p : Nat) : Prop := ∃ f g, f < 8 ∧ g < 8 ∧ S 6 p = nI f ∧ S 7 p = nI g ∧ C 62 p = nI (if f ≤ g then f else g) ∧ C 63 p = nI (if f ≤ g then g else f) ∧
  ∀ v w, v < 4 → w < 4 → re (C 64 (16 * p + (4 * v + w))) (N S 8 (16 * p + (if f ≤ g then 4 * v + w else 4 * w + v))) 999
theorem pr_up {S C : mS} {a p : Nat} (h17 : C 17 a = S 17 a) (hp : prR S C p) : upC C a p ↔ upN S a p := by
  obtain ⟨f, g, hf, hg, h1, h2, h3, h4, -⟩ := hp
  unfold upC upN
  rw [h1, h2, h3, h4, h17]
  split
  · exact Iff.rfl
  · exact Or.comm
theorem k1_eq {S C : mS} {nv : Nat → Nat} {a np : Nat} (ho : re (C 4 (4 * a + nv a)) (N S 4 (4 * a + nv a)) 999) (hp : ∀ p, p < np → prR S C p) (h17 : C 17 a = S 17 a) (hv : ∀ b, b < 8 → nv b < 4) (h12 : np ≤ 12) :
    ∀ p, p ≤ np → re (k1C C nv a p) (s1N S nv a p) (999 * (p + 1))
  | 0, _ => ho
  | p + 1, h => by
    have ih := k1_eq ho hp h17 hv h12 p (by omega)
    have u := pr_up (a := a) h17 (hp p (by omega))
    unfold upC upN at u
    show re (if _ then _ else _) (if _ then _ else _) _
    by_cases q : (S 6 p = nI a ∧ cI (S 17 a) (S 7 p)) ∨ (S 7 p = nI a ∧ cI (S 17 a) (S 6 p))
    · rw [if_pos q, if_pos (u.mpr q)]
      obtain ⟨f, g, hf, hg, h1, h2, h3, h4, h5⟩ := hp p (by omega)
      refine re_mono (re_plus (D := 999) ih ?_ (by omega)) (by omega)
      rw [h1, h2, h3, h4, nI_clamp (by omega : f < 2 ^ 31), nI_clamp (by omega : g < 2 ^ 31)]
      by_cases e : f ≤ g
      · have := h5 (nv f) (nv g) (hv f hf) (hv g hg)
        rw [if_pos e] at this
        rw [if_pos e, if_pos e, nI_clamp (by omega : f < 2 ^ 31), nI_clamp (by omega : g < 2 ^ 31), Nat.add_assoc]
        exact this
      · have := h5 (nv g) (nv f) (hv g hg) (hv f hf)
        rw [if_neg e] at this
        rw [if_neg e, if_neg e, nI_clamp (by omega : f < 2 ^ 31), nI_clamp (by omega : g < 2 ^ 31), Nat.add_assoc (16 * p) (4 * nv f)]
        exact this
    · rw [if_neg q, if_neg (fun z => q (u.mp z))]
      exact re_mono ih (by omega)
theorem unI_eq {z : Nat → Int32} {y : Int32} {n : Nat} (hz : ∀ b, b < n → z b = nI (z b).toNatClampNeg) : ∀ k, k ≤ n → unI z y k = nI (unR z y k)
  | 0, _ => rfl
  | k + 1, h => by
    rw [unI, unR, unI_eq hz k (by omega)]
    split
    · conv => lhs; rw [hz k (by omega)]
      exact pk_mul _ _
    · rfl
theorem plI_eq {z : Nat → Int32} {y : Int32} {n : Nat} {g : Nat → Int32} {nv : Nat → Nat} (hz : ∀ b, b < n → z b = nI (z b).toNatClampNeg) (hg : ∀ b, b < n → cI y (nI b) → g b = nI (nv b)) : ∀ k, k ≤ n → plI z y g k = nI (plR z y nv k)
  | 0, _ => rfl
  | k + 1, h => by
    rw [plI, plR, plI_eq hz hg k (by omega), unI_eq hz k (by omega)]
    split
    · rename_i q
      rw [hg k (by omega) q, pk_mul, nI_add, Nat.mul_comm]
    · rfl
theorem unR_out {z : Nat → Int32} {y : Int32} {n : Nat} (hy : ∀ b, b < 8 → cI y (nI b) → b < n) : ∀ k, n ≤ k → k ≤ 8 → unR z y k = unR z y n
  | 0, h, _ => by rw [Nat.le_zero.mp h]
  | k + 1, h, h8 => by
    rcases Nat.lt_or_ge k n with q | q
    · rw [show n = k + 1 by omega]
    · rw [unR, if_neg (fun e => by have := hy k (by omega) e; omega)]
      exact unR_out hy k q (by omega)
theorem plR_out {z : Nat → Int32} {y : Int32} {n : Nat} {nv : Nat → Nat} (hy : ∀ b, b < 8 → cI y (nI b) → b < n) : ∀ k, n ≤ k → k ≤ 8 → plR z y nv k = plR z y nv n
  | 0, h, _ => by rw [Nat.le_zero.mp h]
  | k + 1, h, h8 => by
    rcases Nat.lt_or_ge k n with q | q
    · rw [show n = k + 1 by omega]
    · rw [plR, if_neg (fun e => by have := hy k (by omega) e; omega)]
      exact plR_out hy k q (by omega)
theorem unR_z {z z' : Nat → Int32} {y : Int32} : ∀ k, (∀ b, b < k → z b = z' b) → unR z y k = unR z' y k
  | 0, _ => rfl
  | k + 1, h => by rw [unR, unR, unR_z k (fun b hb => h b (by omega)), h k (by omega)]
theorem plR_z {z z' : Nat → Int32} {y : Int32} {nv : Nat → Nat} : ∀ k, (∀ b, b < k → z b = z' b) → plR z y nv k = plR z' y nv k
  | 0, _ => rfl
  | k + 1, h => by rw [plR, plR, plR_z k (fun b hb => h b (by omega)), unR_z k (fun b hb => h b (by omega))]
/-- the table of the k-th child of a, b, as its parent a has it, on both sides; its finite entries are at most B -/
def tbR (S C : mS) (n a k b B : Nat) : Prop := b < n ∧ S 20 (8 * a + k) = nI b ∧ C 53 (8 * a + k) = nI b ∧ C 22 b = S 22 b ∧ S 24 (8 + b) = S 22 b ∧ (∀ x, x < 8 → cI (S 22 b) (nI x) → x < n) ∧
  C 55 (8 * a + k) = nI (unN S (S 22 b) 8) ∧ unN S (S 22 b) 8 ≤ 256 ∧ ∀ q, q < unN S (S 22 b) 8 → re (C 56 (256 * (8 * a + k) + q)) (N S 26 (256 * (8 + b) + q)) B
theorem etV_in {w p : Nat} {f : Nat → Int32} (hp : p < w) (hw : w < 2 ^ 31) : etV (nI w) f (nI p) = f p := by
  have e : nI w ≠ -1 ∧ 0 ≤ nI p ∧ nI p < nI w := ⟨fun q => absurd (show nI w < 0 by rw [q]; decide) (nI_pos hw), nI_pos' (by omega), nI_lt hp hw⟩
  rw [etV, if_pos e, nI_clamp (by omega)]
theorem tb_pl {S C : mS} {n a k b B : Nat} {nv : Nat → Nat} {g : Nat → Int32} (h8 : n ≤ 8) (hz : ∀ x, x < n → C 3 x = S 3 x ∧ S 3 x = nI (N S 3 x)) (ht : tbR S C n a k b B) (hg : ∀ x, x < n → cI (S 22 b) (nI x) → g x = nI (nv x) ∧ nv x < N S 3 x) :
    re (etV (C 55 (8 * a + k)) (fun q => C 56 (256 * (8 * a + k) + q)) (plI (C 3) (C 22 b) g n)) (N S 26 (256 * (8 + b) + plR (S 3) (S 24 (8 + b)) nv 8)) B := by
  obtain ⟨h1, h2, h3, h4, h5, h6, h7, h9, h10⟩ := ht
  have lt : plR (S 3) (S 22 b) nv 8 < unN S (S 22 b) 8 := plR_lt 8 (fun x hx q => (hg x (h6 x hx q) q).2)
  have e : plI (C 3) (C 22 b) g n = nI (plR (S 3) (S 22 b) nv 8) := by
    rw [plI_eq (n := n) (nv := nv) (fun x hx => by rw [(hz x hx).1]; exact (hz x hx).2) (fun x hx q => (hg x hx (by rw [← h4]; exact q)).1) n (Nat.le_refl _), h4, plR_out h6 8 h8 (Nat.le_refl _), plR_z (z' := S 3) n (fun x hx => (hz x hx).1)]
  rw [e, h5, h7, etV_in lt (by omega)]
  exact h10 _ lt
def sumB (Bc : Nat → Nat) : Nat → Nat
  | 0 => 0
  | k + 1 => sumB Bc k + Bc k
theorem sumB_le {Bc : Nat → Nat} : ∀ k j, k ≤ j → sumB Bc k ≤ sumB Bc j
  | k, 0, h => by rw [Nat.le_zero.mp h]; exact Nat.le_refl _
  | k, j + 1, h => by
    rcases Nat.lt_or_ge j k with q | q
    · rw [show k = j + 1 by omega]; exact Nat.le_refl _
    · rw [sumB]; have := sumB_le (Bc := Bc) k j q; omega
theorem k2_eq {S C : mS} {n a cc B : Nat} {nv : Nat → Nat} {g : Nat → Int32} {s : Int32} {m : Nat} {ch : Nat → Nat} {Bc : Nat → Nat} (h8 : n ≤ 8) (hz : ∀ x, x < n → C 3 x = S 3 x ∧ S 3 x = nI (N S 3 x))
    (ht : ∀ k, k < cc → tbR S C n a k (ch k) (Bc k)) (hg : ∀ k x, k < cc → x < n → cI (S 22 (ch k)) (nI x) → g x = nI (nv x) ∧ nv x < N S 3 x) (h0 : re s m B) (hB : B + sumB Bc cc < 1048576) :
    ∀ k, k ≤ cc → re (k2R s (C 53) (C 22) (C 55) (C 56) (C 3) g a n k) (s2R m (S 20) (S 24) (S 26) (S 3) nv a k) (B + sumB Bc k)
  | 0, _ => h0
  | k + 1, h => by
    have ih := k2_eq h8 hz ht hg h0 hB k (by omega)
    have t := ht k (by omega)
    have l := sumB_le (Bc := Bc) (k + 1) cc h
    rw [sumB] at l
    rw [k2R, s2R, sumB, ← Nat.add_assoc]
    refine re_plus ih ?_ (by omega)
    have e := tb_pl h8 hz t (hg k · (by omega))
    have hb : ch k < 2 ^ 31 := by have := t.1; omega
    rw [t.2.1, t.2.2.1, nI_clamp hb]
    exact e

theorem cost_eq {S C : mS} {n a np cc : Nat} {nv : Nat → Nat} {g : Nat → Int32} {ch : Nat → Nat} {Bc : Nat → Nat} (h8 : n ≤ 8) (hz : ∀ x, x < n → C 3 x = S 3 x ∧ S 3 x = nI (N S 3 x))
    (ho : re (C 4 (4 * a + nv a)) (N S 4 (4 * a + nv a)) 999) (hp : ∀ p, p < np → prR S C p) (h17 : C 17 a = S 17 a) (hv : ∀ b, b < 8 → nv b < 4) (h12 : np ≤ 12)
    (ht : ∀ k, k < cc → tbR S C n a k (ch k) (Bc k)) (hg : ∀ k x, k < cc → x < n → cI (S 22 (ch k)) (nI x) → g x = nI (nv x) ∧ nv x < N S 3 x) (hB : 12987 + sumB Bc cc < 1048576) :
    costC C nv g a n np cc = un (nI (costN S nv a np cc)) ∧ (costN S nv a np cc < 1048576 → costN S nv a np cc ≤ 12987 + sumB Bc cc) := by
  have h1 := re_mono (k1_eq ho hp h17 hv h12 np (Nat.le_refl _)) (show 999 * (np + 1) ≤ 12987 by omega)
  have h2 := k2_eq h8 hz ht hg h1 hB cc (Nat.le_refl _)
  refine ⟨re_un h2 hB, fun q => ?_⟩
  rcases h2 with ⟨p, -⟩ | ⟨p, -⟩
  · show (if s2N S nv a np cc ≤ 1048576 then s2N S nv a np cc else 1048576) ≤ _
    rw [if_pos (Nat.le_trans p (by omega))]; exact p
  · exfalso
    have : costN S nv a np cc = 1048576 := by
      show (if s2N S nv a np cc ≤ 1048576 then s2N S nv a np cc else 1048576) = _
      have p' : 1048576 ≤ s2N S nv a np cc := p
      split <;> omega
    omega
theorem lc_eq {f : Nat → Int32} {F : Nat → Nat} {z : Nat} (hf : ∀ v, v < z → f v = un (nI (F v))) (hF : ∀ v, v < z → F v ≤ 1048576) : ∀ k, k ≤ z → lcR f k = un (nI (blR F k))
  | 0, _ => rfl
  | k + 1, h => by
    have b1 := blR_le F k
    have b2 := hF k (by omega)
    rw [lcR, blR, lc_eq hf hF k (by omega), hf k (by omega)]
    have ne : ∀ m, m < 1048576 → un (nI m) = nI m := fun m hm => by
      have k : nI m ≠ 1048576 := fun q => by have := nI_inj (b := 1048576) (by omega) (by omega) q; omega
      rw [un, if_neg k]
    have fr : un (nI 1048576) = -2 := rfl
    unfold lesI
    by_cases e1 : blR F k = 1048576
    · rw [e1, fr, if_pos rfl]
      by_cases e2 : F k = 1048576
      · rw [e2, if_neg (Nat.lt_irrefl _)]
      · rw [if_pos (by omega)]
    · rw [ne _ (by omega), if_neg (nI_ne2 (by omega))]
      by_cases e2 : F k = 1048576
      · rw [e2, fr, if_pos rfl, if_neg (by omega), ne _ (by omega)]
      · rw [ne _ (by omega : F k < 1048576), if_neg (nI_ne2 (by omega))]
        by_cases e3 : F k < blR F k
        · rw [if_pos e3, if_neg (nI_ge e3 (by omega)), ne _ (by omega)]
        · rw [if_neg e3, if_pos (nI_le (by omega) (by omega)), ne _ (by omega)]
theorem bl_min {F : Nat → Nat} : ∀ z, (∀ v, v < z → blR F z ≤ F v) ∧ (blR F z < 1048576 → ∃ v, v < z ∧ F v = blR F z ∧ (∀ u, u < v → blR F z < F u) ∧ bvR F z = nI v)
  | 0 => ⟨fun v h => absurd h (Nat.not_lt_zero _), fun h => absurd h (Nat.lt_irrefl _)⟩
  | k + 1 => by
    have ih := bl_min (F := F) k
    rw [blR, bvR]
    by_cases e : F k < blR F k
    · rw [if_pos e, if_pos e]
      refine ⟨fun v hv => ?_, fun _ => ⟨k, Nat.lt_succ_self k, rfl, fun u hu => Nat.lt_of_lt_of_le e (ih.1 u hu), rfl⟩⟩
      rcases Nat.lt_or_ge v k with q | q
      · exact Nat.le_of_lt (Nat.lt_of_lt_of_le e (ih.1 v q))
      · rw [show v = k by omega]; exact Nat.le_refl _
    · rw [if_neg e, if_neg e]
      refine ⟨fun v hv => ?_, fun h => ?_⟩
      · rcases Nat.lt_or_ge v k with q | q
        · exact ih.1 v q
        · rw [show v = k by omega]; omega
      · obtain ⟨v, h1, h2, h3, h4⟩ := ih.2 h
        exact ⟨v, by omega, h2, h3, h4⟩
/-- costs depend on the values told alone -/
theorem s1_cong {o f g c an : Nat → Int32} {nv nw : Nat → Nat} {a : Nat} (ha : nv a = nw a) : ∀ k, (∀ p, p < k → (f p = nI a ∧ cI (an a) (g p)) ∨ (g p = nI a ∧ cI (an a) (f p)) → nv (f p).toNatClampNeg = nw (f p).toNatClampNeg ∧ nv (g p).toNatClampNeg = nw (g p).toNatClampNeg) → s1R o f g c an nv a k = s1R o f g c an nw a k
  | 0, _ => by rw [s1R, s1R, ha]
  | k + 1, h => by
    rw [s1R, s1R, s1_cong ha k (fun p hp => h p (by omega))]
    split
    · rename_i q
      have := h k (by omega) q
      rw [this.1, this.2]
    · rfl
theorem pl_cong {z : Nat → Int32} {y : Int32} {nv nw : Nat → Nat} : ∀ k, (∀ b, b < k → cI y (nI b) → nv b = nw b) → plR z y nv k = plR z y nw k
  | 0, _ => rfl
  | k + 1, h => by
    rw [plR, plR, pl_cong k (fun b hb => h b (by omega))]
    split
    · rename_i q; rw [h k (by omega) q]
    · rfl
theorem s2_cong {ch ms ce z : Nat → Int32} {nv nw : Nat → Nat} {a s : Nat} : ∀ k, (∀ j, j < k → ∀ b, b < 8 → cI (ms (8 + (ch (8 * a + j)).toNatClampNeg)) (nI b) → nv b = nw b) → s2R s ch ms ce z nv a k = s2R s ch ms ce z nw a k
  | 0, _ => rfl
  | k + 1, h => by
    rw [s2R, s2R, s2_cong k (fun j hj => h j (by omega)), pl_cong 8 (h k (by omega))]
/-- digits of a place -/
theorem dg_pl {z : Nat → Int32} {y : Int32} {nv : Nat → Nat} {m : Nat} (hv : ∀ b, b < m → cI y (nI b) → nv b < (z b).toNatClampNeg) : ∀ k, k ≤ m → ∀ b, b < k → cI y (nI b) → (plR z y nv k / unR z y b) % (z b).toNatClampNeg = nv b
  | 0, _, b, hb, _ => absurd hb (Nat.not_lt_zero _)
  | k + 1, h, b, hb, q => by
    have hz : ∀ c, c < k → cI y (nI c) → 0 < (z c).toNatClampNeg := fun c hc e => by have := hv c (by omega) e; omega
    have lt := plR_lt (z := z) (x := y) (nv := nv) k (fun c hc e => hv c (by omega) e)
    rcases Nat.lt_or_ge b k with e | e
    · have ih := dg_pl hv k (by omega) b e q
      rw [plR]
      split
      · have dv : ∃ c, unR z y k = unR z y b * (z b).toNatClampNeg * c := by
          have : ∀ j, b < j → j ≤ k → ∃ c, unR z y j = unR z y b * (z b).toNatClampNeg * c := by
            intro j
            induction j with
            | zero => intro h1; omega
            | succ j ihj =>
              intro h1 h2
              rcases Nat.lt_or_ge b j with e2 | e2
              · obtain ⟨c, hc⟩ := ihj e2 (by omega)
                rw [unR, hc]
                split
                · exact ⟨c * (z j).toNatClampNeg, by rw [Nat.mul_assoc]⟩
                · exact ⟨c, rfl⟩
              · rw [show j = b by omega, unR, if_pos q]; exact ⟨1, by rw [Nat.mul_one]⟩
          exact this k e (Nat.le_refl _)
        obtain ⟨c, hc⟩ := dv
        have up := unR_pos (z := z) (x := y) b (fun d hd q => hz d (by omega) q)
        rw [hc, show unR z y b * (z b).toNatClampNeg * c * nv k = unR z y b * ((z b).toNatClampNeg * (c * nv k)) by simp only [Nat.mul_assoc], Nat.add_mul_div_left _ _ up, Nat.add_mul_mod_self_left]
        exact ih
      · exact ih
    · have : b = k := by omega
      subst this
      have up := unR_pos (z := z) (x := y) b hz
      rw [plR, if_pos q, Nat.add_mul_div_left _ _ up, Nat.div_eq_of_lt lt, Nat.zero_add, Nat.mod_eq_of_lt (hv b (by omega) q)]
