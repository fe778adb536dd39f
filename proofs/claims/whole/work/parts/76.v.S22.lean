/-! SIMULATION S22. Laid by wip/whole/gen/p71.py -/
section
variable {S C : mS} {n np nl T : Nat} {sz : Nat → Nat → Nat}
theorem rtR_iy {nb : Nat → Int32} {x : Int32} : ∀ k, (rtR nb x k = -1 ∧ ∀ b, b < k → ¬ cI x (nI b)) ∨ ∃ r, r < k ∧ rtR nb x k = nI r ∧ cI x (nI r)
  | 0 => Or.inl ⟨rfl, fun b hb => absurd hb (Nat.not_lt_zero _)⟩
  | k + 1 => by
    rw [rtR]
    by_cases z : cI x (nI k) ∧ gbR nb (nI k) (rtR nb x k)
    · rw [if_pos z]; exact Or.inr ⟨k, Nat.lt_succ_self k, rfl, z.1⟩
    · rw [if_neg z]
      rcases rtR_iy (nb := nb) (x := x) k with ⟨h1, h2⟩ | ⟨r, h1, h2, h3⟩
      · refine Or.inl ⟨h1, fun b hb q => ?_⟩
        rcases Nat.lt_or_ge b k with y | y
        · exact h2 b y q
        · have e : b = k := by omega
          rw [e] at q
          exact z ⟨q, Or.inl (by rw [h1]; decide)⟩
      · exact Or.inr ⟨r, by omega, h2, h3⟩
abbrev MM (S : mS) (n a : Nat) : Int32 := itR (S 9) n (1 <<< (nI a &&& 31)) n
abbrev mem (S : mS) (n a i : Nat) : Prop := cI (MM S n a) (nI i)
theorem mem_all (h8 : n ≤ 8) (h9 : ∀ a, a < 8 → ∃ m, m < 256 ∧ S 9 a = nI m) (hN : ∀ x y, vnb S n x y → vnb S n y x ∧ x ≠ y ∧ y < n) :
    (∀ a, a < n → itR (S 9) n (1 <<< (nI a &&& 31)) (n + 1) = MM S n a) ∧ (∀ a, a < n → mem S n a a) ∧ (∀ a i j, a < n → i < n → mem S n a i → vnb S n i j → mem S n a j) ∧ (∀ a i, a < n → i < 8 → mem S n a i → i < n) ∧
    (∀ (P : Nat → Prop) a i, a < n → i < 8 → (∀ x y, P x → vnb S n x y → P y) → P a → mem S n a i → P i) := by
  have hnb : ∀ b, b < n → ∃ a, a < 256 ∧ S 9 b = nI a := fun b hb => h9 b (by omega)
  have hnn : ∀ k b, k < n → b < 8 → cI (S 9 k) (nI b) → b < n := fun k b hk hb q => (hN k b ⟨hk, hb, q⟩).2.2
  have bits : ∀ a, a < n → ∀ b, b < 8 → (cI (1 <<< (nI a &&& 31)) (nI b) ↔ b = a) := fun a ha b hb => cI_bit a (by omega) b hb
  have fx : ∀ a, a < n → itR (S 9) n (1 <<< (nI a &&& 31)) (n + 1) = MM S n a := fun a ha => it_fixp h8 hnb hnn (bit_m a (by omega)) (fun b hb q => by rw [(bits a ha b hb).mp q]; exact ha) ⟨a, by omega, (bits a ha a (by omega)).mpr rfl⟩
  refine ⟨fx, fun a ha => it_mono (by omega) n ((bits a ha a (by omega)).mpr rfl), fun a i j ha hi q z => ?_, fun a i ha hi q => ?_, fun P a i ha hi hP hPa q => ?_⟩
  · exact sw_fix (nb := S 9) h8 (show swR (S 9) (MM S n a) n = MM S n a from fx a ha) i hi q j z.2.1 z.2.2
  · exact it_sub (nb := S 9) (T := fun b => b < n) h8 (fun k b hk hb _ z => hnn k b hk hb z) (fun b hb z => by rw [(bits a ha b hb).mp z]; exact ha) n i hi q
  · exact it_sub (nb := S 9) (T := P) h8 (fun k b hk hb h1 z => hP k b h1 ⟨hk, hb, z⟩) (fun b hb z => by rw [(bits a ha b hb).mp z]; exact hPa) n i hi q
/-- the parts found below a -/
def JJ (S U : mS) (n a : Nat) : Prop := (∀ j, j ≠ 10 → j ≠ 11 → j ≠ 12 → U j = S j) ∧ (∀ i, i < n → U 10 i = -1 ∨ ∃ q, q < a ∧ q < n ∧ U 10 i = nI q ∧ mem S n q i) ∧ (∀ i q x, i < n → q < n → U 10 i = nI q → x < n → mem S n q x → U 10 x = nI q) ∧ (∀ i, i < a → i < n → U 10 i ≠ -1) ∧
  (∀ i q, i < n → q < n → U 10 i = nI q → U 11 q = rtR (S 9) (MM S n q) n ∧ U 12 q = 1) ∧ ∀ i, n ≤ i → U 10 i = S 10 i
theorem JJ_0 (h8 : n ≤ 8) (h : ∀ i, i < 8 → S 10 i = -1) : JJ S S n 0 :=
  ⟨fun _ _ _ _ => rfl, fun i hi => Or.inl (h i (by omega)), fun i q x hi hq e => by rw [h i (by omega)] at e; exact absurd e.symm (nI_m1' (by omega)), fun i hi => absurd hi (Nat.not_lt_zero _), fun i q hi hq e => by rw [h i (by omega)] at e; exact absurd e.symm (nI_m1' (by omega)), fun _ _ => rfl⟩
theorem mem_eq (h8 : n ≤ 8) (h9 : ∀ a, a < 8 → ∃ m, m < 256 ∧ S 9 a = nI m) (hN : ∀ x y, vnb S n x y → vnb S n y x ∧ x ≠ y ∧ y < n) {a i x : Nat} (ha : a < n) (hi : i < n) (hx : x < 8) (q : mem S n a i) : (mem S n a x ↔ mem S n i x) := by
  obtain ⟨m1, m2, m3, m4, m5⟩ := mem_all h8 h9 hN
  have inc : ∀ a b x, a < n → b < n → x < 8 → mem S n a b → mem S n b x → mem S n a x := fun a b x ha hb hx z1 z2 => m5 (fun y => y < n ∧ mem S n a y) b x hb hx (fun y z h1 h2 => ⟨(hN y z h2).2.2, m3 a y z ha h1.1 h1.2 h2⟩) ⟨hb, z1⟩ z2 |>.2
  have sym : ∀ a i, a < n → i < n → mem S n a i → mem S n i a := fun a i ha hi z => (m5 (fun y => y < n ∧ mem S n y a) a i ha (by omega) (fun y w h1 h2 => by
    have hw := (hN y w h2).2.2
    refine ⟨hw, inc w y a hw h1.1 (by omega) (m3 w w y hw hw (m2 w hw) (hN y w h2).1) h1.2⟩) ⟨ha, m2 a ha⟩ z).2
  exact ⟨fun z => inc i a x hi ha hx (sym a i ha hi q) z, fun z => inc a i x ha hi hx q z⟩
theorem JJ_s {U : mS} {a : Nat} (h8 : n ≤ 8) (h9 : ∀ a, a < 8 → ∃ m, m < 256 ∧ S 9 a = nI m) (hN : ∀ x y, vnb S n x y → vnb S n y x ∧ x ≠ y ∧ y < n) (ha : a < n) (J : JJ S U n a) : (U 10 a ≠ -1 → JJ S U n (a + 1)) ∧ (U 10 a = -1 → JJ S (fpC U a (MM S n a) n) n (a + 1)) := by
  obtain ⟨j0, j1, j2, j3, j4, j5⟩ := J
  obtain ⟨m1, m2, m3, m4, m5⟩ := mem_all h8 h9 hN
  refine ⟨fun q => ⟨j0, fun i hi => (j1 i hi).imp_right (fun ⟨q, z1, z2⟩ => ⟨q, by omega, z2⟩), j2, fun i hi hin => ?_, j4, j5⟩, fun q => ?_⟩
  · rcases Nat.lt_or_ge i a with z | z
    · exact j3 i z hin
    · rw [show i = a by omega]; exact q
  · have e10 : ∀ i, fpC U a (MM S n a) n 10 i = if i < n ∧ mem S n a i then nI a else U 10 i := fun i => by unfold fpC mem; simp
    have e11 : ∀ i, fpC U a (MM S n a) n 11 i = if i = a then rtR (S 9) (MM S n a) n else U 11 i := fun i => by unfold fpC; rw [← j0 9 (by decide) (by decide) (by decide)]; simp
    have e12 : ∀ i, fpC U a (MM S n a) n 12 i = if i = a then 1 else U 12 i := fun i => by unfold fpC; simp
    have disj : ∀ i y, i < n → y < n → U 10 i = nI y → mem S n y i → ¬ mem S n a i := fun i y hi hy z1 z2 z3 => by
      have : mem S n y a := (mem_eq h8 h9 hN hy hi (by omega) z2).mpr ((mem_eq h8 h9 hN ha hi (by omega) z3).mp (m2 a ha))
      have := j2 i y a hi hy z1 ha this
      rw [q] at this; exact absurd this.symm (nI_m1' (by omega))
    refine ⟨fun j z1 z2 z3 => ?_, fun i hi => ?_, fun i y x hi hy z hx zx => ?_, fun i hi hin => ?_, fun i y hi hy z => ?_, fun i hi => ?_⟩
    · rw [← j0 j z1 z2 z3]; funext i; unfold fpC; simp [z1, z2, z3]
    · rw [e10]
      by_cases z : i < n ∧ mem S n a i
      · rw [if_pos z]; exact Or.inr ⟨a, by omega, ha, rfl, z.2⟩
      · rw [if_neg z]; exact (j1 i hi).imp_right (fun ⟨y, z1, z2⟩ => ⟨y, by omega, z2⟩)
    · rw [e10] at z ⊢
      by_cases z1 : i < n ∧ mem S n a i
      · rw [if_pos z1] at z
        have : a = y := nI_inj (by omega) (by omega) z
        rw [← this] at zx ⊢
        rw [if_pos ⟨hx, zx⟩]
      · rw [if_neg z1] at z
        have zi : mem S n y i := by
          rcases j1 i hi with w | ⟨y', w1, w2, w3, w4⟩
          · rw [w] at z; exact absurd z.symm (nI_m1' (by omega))
          · have : y' = y := nI_inj (by omega) (by omega) (w3.symm.trans z)
            rw [← this]; exact w4
        have ux := j2 i y x hi hy z hx zx
        rw [if_neg (fun w => disj x y hx hy ux zx w.2)]; exact ux
    · rw [e10]
      by_cases z : i < n ∧ mem S n a i
      · rw [if_pos z]; exact nI_m1' (by omega)
      · rw [if_neg z]
        rcases Nat.lt_or_ge i a with y | y
        · exact j3 i y hin
        · exact absurd ⟨hin, by rw [show i = a by omega]; exact m2 a ha⟩ z
    · rw [e10] at z
      rw [e11, e12]
      by_cases z1 : i < n ∧ mem S n a i
      · rw [if_pos z1] at z
        have : a = y := nI_inj (by omega) (by omega) z
        rw [if_pos this.symm, if_pos this.symm, this]; exact ⟨rfl, rfl⟩
      · rw [if_neg z1] at z
        have hya : y ≠ a := fun e => by
          rcases j1 i hi with w | ⟨y', w1, w2, w3, w4⟩
          · rw [w] at z; exact absurd z.symm (nI_m1' (by omega))
          · have : y' = y := nI_inj (by omega) (by omega) (w3.symm.trans z)
            omega
        rw [if_neg hya, if_neg hya]; exact j4 i y hi hy z
    · rw [e10, if_neg (fun z => by omega)]; exact j5 i hi
theorem JJ_all (h8 : n ≤ 8) (h9 : ∀ a, a < 8 → ∃ m, m < 256 ∧ S 9 a = nI m) (hN : ∀ x y, vnb S n x y → vnb S n y x ∧ x ≠ y ∧ y < n) (h10 : ∀ i, i < 8 → S 10 i = -1) : ∀ a, a ≤ n → JJ S (spF S n (MM S n) a) n a
  | 0, _ => JJ_0 h8 h10
  | a + 1, h => by
    have ih := JJ_all h8 h9 hN h10 a (by omega)
    have st := JJ_s h8 h9 hN (by omega) ih
    rw [spF]
    rcases ih.2.1 a (by omega) with z | ⟨q, z1, z2, z3, -⟩
    · rw [if_neg (by rw [z]; decide)]; exact st.2 z
    · rw [if_pos (by rw [z3]; exact nI_pos' (by omega))]; exact st.1 (by rw [z3]; exact nI_m1' (by omega))
end
