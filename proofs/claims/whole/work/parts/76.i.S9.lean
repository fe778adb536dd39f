/-! SIMULATION S9. Laid by wip/whole/gen/p71.py -/
section
variable {S S' C : mS} {n np nl T : Nat} {sz : Nat → Nat → Nat} {A : Rl} {dd : Nat → Nat} {hh : Nat → Prop} {hx ex : Nat}
def WI (S C : mS) (n np nl T : Nat) (sz : Nat → Nat → Nat) (A : Rl) (dd : Nat → Nat) (hh : Nat → Prop) (hx ex : Nat) : Prop := S 2 0 = 1 ∧ BI S n np nl T ∧ SIM S C n np nl sz hx ∧ IX S n np A dd hh ex ∧ (∀ k, k < nl → LVk S n k) ∧ CD S n ∧ Z5 S n sz
theorem post_W {w a b m my mk wl : Int32} {f : Nat → Int32} (W : WI S C n np nl T sz A dd hh hx ex) (h : PS S S' nl w a b m my mk) (hV : nl < 20 → LV S n w a b m my mk (fun i => S' 41 (256 * nl + i))) (hwl : nl < 20 → wl = (if w = 2 then my else if w = 3 then 8 else -1)) (h2 : nl < 20 → w = 2 → my.toNatClampNeg ≤ 256 ∧ ∀ i, i < my.toNatClampNeg → f i = un (S' 41 (256 * nl + i))) (h3 : nl < 20 → w = 3 → ∀ i, i < 8 → f i = S' 41 (256 * nl + i)) :
    WI S' (sndC C nl w a b m wl f) n np (nlS nl) T (lu sz 8 0 (nlS nl)) A dd hh hx ex := by
  obtain ⟨w1, w2, w3, w4, w5, w6, w7⟩ := W
  have lo := PS_lo h
  have h256 : ∀ k, k < nl → S 35 k = 2 → N S 39 k ≤ 256 := fun k hk e => by
    obtain ⟨f, t, -, -, -, -, hv⟩ := w5 k hk
    rcases hv with ⟨k1, -⟩ | ⟨k1, -⟩ | ⟨-, -, -, -, k2, k3, -⟩ | ⟨k1, -⟩
    · rw [e] at k1; exact absurd k1 (by decide)
    · rw [e] at k1; exact absurd k1 (by decide)
    · show (S 39 k).toNatClampNeg ≤ 256; rw [k2, nI_clamp (by omega)]; exact k3
    · rw [e] at k1; exact absurd k1 (by decide)
  refine ⟨by rw [lo 2 (by decide) (by decide)]; exact w1, post_B h w2, post_M h w3.1.2.2.2.2.2.2.2 hwl h2 h3 h256 w3, ?_, post_L h hV w5, ?_, ?_⟩
  · rw [IX_rows (fun j q _ _ q0 => lo j (by omega) (by omega))]; exact w4
  · have := w6; unfold CD N at *; rw [lo 20 (by decide) (by decide), lo 21 (by decide) (by decide)]; exact this
  · have := w7; unfold Z5 at *; rw [lo 10 (by decide) (by decide)]; exact this
theorem lu_lu {L : Nat → Nat → Nat} {g i p q : Nat} : lu (lu L g i p) g i q = lu L g i q := by
  funext g' i'; unfold lu; split <;> rfl
theorem pcF_sn {a : Nat} (hn : S 34 0 = nI nl) (h20 : nl ≤ 20) : ∀ k, pcF S a k 34 0 = nI (snl nl k) ∧ ∀ j, 0 < j → j < 34 → pcF S a k j = S j
  | 0 => ⟨hn, fun _ _ _ => rfl⟩
  | k + 1 => by
    obtain ⟨h1, h2⟩ := pcF_sn hn h20 k
    have h3 := snl_le h20 k
    have P := (PS_pc1 (k := a) (c := k) h1 h3).1
    refine ⟨?_, fun j q0 q1 => ?_⟩
    · rw [pcF, snl]
      rcases P with ⟨e1, e2⟩ | ⟨e1, e2, -⟩
      · rw [e2, h1]; exact congrArg nI (if_neg (by omega)).symm
      · rw [e2]; exact congrArg nI (if_pos e1).symm
    · rw [pcF, PS_lo P j q0 q1, h2 j q0 q1]
theorem choices_W {a : Nat} (W : WI S C n np nl T sz A dd hh hx ex) (ha : a < n) (h8 : n ≤ 8) (hst : 1 ≤ vst S n a) : ∀ k, k ≤ N S 21 a → WI (pcF S a k) (scC C a nl k) n np (snl nl k) T (lu sz 8 0 (snl nl k)) A dd hh hx ex
  | 0, _ => by
    show WI S C n np nl T (lu sz 8 0 nl) A dd hh hx ex
    rw [show lu sz 8 0 nl = sz from lu_id W.2.2.1.1.2.2.2.2.2.2.2]; exact W
  | k + 1, hk => by
    have ih := choices_W W ha h8 hst k (by omega)
    obtain ⟨b1, b2, b3, b4, b5, b6, b7⟩ := W.2.1.1
    obtain ⟨l1, l2⟩ := pcF_sn (a := a) b5 b6 k
    have l3 := snl_le b6 k
    obtain ⟨P, Pc⟩ := PS_pc1 (k := a) (c := k) l1 l3
    have e31 := l2 31 (by decide) (by decide)
    have e28 := l2 28 (by decide) (by decide)
    have e20 := l2 20 (by decide) (by decide)
    have e21 := l2 21 (by decide) (by decide)
    have e19 := l2 19 (by decide) (by decide)
    have hk' : k < N S 21 a := by omega
    have hkc : k < chn S a := by show k < N S 21 a + _; omega
    obtain ⟨c, hc, ec⟩ := W.2.1.2.2.2.2.2.2.2.2.2.2.1 a k ha hk'
    have mc := W.2.2.1.2.2.2.1 a ha
    have mg := W.2.2.1.2.1 a ha
    have mk := W.2.2.1.2.2.2.2.2.1 a ha
    obtain ⟨D, E, NIh, TIh, KIh, PIh⟩ := W.2.2.2.1
    have hch : vch S n a c := ⟨ha, by omega, k, hk', ec⟩
    have hpa := (D.1.2.2.2.2.1 a c hch).1
    have nn28 := (W.2.1.2.2.2.2.2.2.2.2.2.1 a (by omega)).2.2.2.2.2.2.2.1
    have v28 : N S 28 a = vst S n a := by unfold vst; rw [if_pos ha]
    have n28 : S 28 a ≠ 0 := fun e => by
      have : N S 28 a = 0 := by show (S 28 a).toNatClampNeg = 0; rw [e]; rfl
      omega
    have c53 : C 53 (8 * a + k) = S 20 (8 * a + k) := by
      rw [(mc.2.2 k hkc).1]; show (if k < N S 21 a then _ else _) = _; rw [if_pos hk']
    have c59 : C 59 a = 8 := by rw [mk.1, if_neg n28]
    have hsp : vR S c = vR S a := E.2.2.2.2.2.2.2.1 _ _ (D.1.2.2.2.2.2.2.2 _ _ hpa).2.2.2.1
    have BT := W.2.1.2.2.2.2.2.2.2.2.2.2.2
    have step := post_W (wl := C 59 a) (f := fun i => C 66 (256 * a + i)) ih P (fun q => ?_) (fun _ => by rw [c59]; rfl) (fun _ e => absurd e (by decide)) (fun q _ i hi => ?_)
    · rw [show snl nl (k + 1) = nlS (snl nl k) from rfl, pcF, scC, c53, mg.2.2.2.2.2.2.2.2.2]
      rw [e20, e28, lu_lu] at step
      exact step
    · rw [e20, e28]
      rw [LV_rows (fun j q _ _ q0 => l2 j (by omega) (by omega))]
      refine ⟨a, c, ha, hc, rfl, ec, Or.inr (Or.inr (Or.inr ⟨rfl, hpa, fun x hx => ?_, ?_, vst S n a, hst, ?_, ?_, ?_⟩))⟩
      · have e := Pc q x hx; rw [e31] at e
        show pc1 (pcF S a k) a k 41 (256 * snl nl k + x) = -1 ∨ (x < n ∧ ∃ v, v < N S 3 x ∧ pc1 (pcF S a k) a k 41 (256 * snl nl k + x) = nI v)
        rw [e]; exact (KIh a ha).1 x hx
      · have h3 : ∀ b, b < 8 → nn (pcF S a k) 3 b 4 := by
          unfold nn N; rw [l2 3 (by decide) (by decide)]; exact W.2.1.2.1
        have rk : rowK (pcF S a k) n (fun x => (pcF S a k) 31 (8 * a + x)) := by
          have := (KIh a ha).1
          unfold rowK N at *; rw [l2 3 (by decide) (by decide), e31]; exact this
        rw [cnt_cc rk h3 8 (Nat.le_refl _)]
        exact congrArg nI (ccR_c 8 (fun i hi => by rw [Pc q i hi]))
      · have := nn28.2; omega
      · rw [← v28]; exact nn28.1
      · by_cases q9 : vst S n a = vR S a
        · refine Or.inr ⟨by rw [hsp]; exact q9, by rw [hsp]; exact q9, fun x hx => ?_⟩
          show pc1 (pcF S a k) a k 41 (256 * snl nl k + x) = _
          rw [Pc q x hx, e31]
        · exact Or.inl (Nat.le_of_eq (E.2.2.2.2.2.2.2.2.2 c a hpa q9).symm)
    · rw [Pc q i hi, e31]; exact mk.2 n28 i hi
end
