/-! SIMULATION O6. Laid by wip/whole/gen/p71.py -/
section
variable {S T : mS} {n np : Nat} {A : Rl} {dd : Nat → Nat} {hh : Nat → Prop} {w f t m my mk : Int32} {e : Nat → Int32}
theorem LV_tok {a : Nat} {s x : Int32} (D : vDI S n A hh) (ha : a < n) (hna : ¬ vhd S n a) (h : LV S n w f t m my mk e) : LV (rt0 S a s x) n w f t m my mk e := by
  have e3 : (rt0 S a s x) 3 = S 3 := by funext i; simp [rt0, mu]
  have e4 : (rt0 S a s x) 4 = S 4 := by funext i; simp [rt0, mu]
  have e6 : (rt0 S a s x) 6 = S 6 := by funext i; simp [rt0, mu]
  have e7 : (rt0 S a s x) 7 = S 7 := by funext i; simp [rt0, mu]
  have e8 : (rt0 S a s x) 8 = S 8 := by funext i; simp [rt0, mu]
  have e9 : (rt0 S a s x) 9 = S 9 := by funext i; simp [rt0, mu]
  have e10 : (rt0 S a s x) 10 = S 10 := by funext i; simp [rt0, mu]
  have e11 : (rt0 S a s x) 11 = S 11 := by funext i; simp [rt0, mu]
  have e12 : (rt0 S a s x) 12 = S 12 := by funext i; simp [rt0, mu]
  have e14 : (rt0 S a s x) 14 = S 14 := by funext i; simp [rt0, mu]
  have e19 : (rt0 S a s x) 19 = S 19 := by funext i; simp [rt0, mu]
  have e20 : (rt0 S a s x) 20 = S 20 := by funext i; simp [rt0, mu]
  have e21 : (rt0 S a s x) 21 = S 21 := by funext i; simp [rt0, mu]
  have e22 : (rt0 S a s x) 22 = S 22 := by funext i; simp [rt0, mu]
  have e23 : (rt0 S a s x) 23 = S 23 := by funext i; simp [rt0, mu]
  have e24 : (rt0 S a s x) 24 = S 24 := by funext i; simp [rt0, mu]
  have e25 : (rt0 S a s x) 25 = S 25 := by funext i; simp [rt0, mu]
  have e26 : (rt0 S a s x) 26 = S 26 := by funext i; simp [rt0, mu]
  have e28 : (rt0 S a s x) 28 = S 28 := by funext i; simp [rt0, mu]
  have e29 : (rt0 S a s x) 29 = S 29 := by funext i; simp [rt0, mu]
  have e30 : (rt0 S a s x) 30 = S 30 := by funext i; simp [rt0, mu]
  have e31 : (rt0 S a s x) 31 = S 31 := by funext i; simp [rt0, mu]
  have x_vsp : vsp (rt0 S a s x) = vsp S := by unfold vsp; simp only [N, e10]
  have x_vrt : vrt (rt0 S a s x) n = vrt S n := by unfold vrt; simp only [N, e10, e11]
  have x_vnb : vnb (rt0 S a s x) n = vnb S n := by unfold vnb; simp only [N, e9]
  have x_vch : vch (rt0 S a s x) n = vch S n := by unfold vch; simp only [N, e20, e21]
  have x_vwt : vwt (rt0 S a s x) n = vwt S n := by unfold vwt; simp only [N, e19]
  have x_vth : vth (rt0 S a s x) n = vth S n := by unfold vth; simp only [N, e14]
  have x_vse : vse (rt0 S a s x) n = vse S n := by unfold vse; simp only [N, e22]
  have x_vR : vR (rt0 S a s x) = vR S := by unfold vR; simp only [N, e10, e12]
  have x_vtr : vtr (rt0 S a s x) n = vtr S n := by unfold vtr; simp only [N, e23]
  have x_vtq : vtq (rt0 S a s x) n = vtq S n := by unfold vtq; simp only [N, e23]
  have x_vst : vst (rt0 S a s x) n = vst S n := by unfold vst; simp only [N, e28]
  have x_vnr : vnr (rt0 S a s x) n = vnr S n := by unfold vnr; simp only [N, e29]
  have e13 : ∀ y, (rt0 S a s x) 13 y = if y = a then 1 else S 13 y := fun y => by simp [rt0, mu]
  have e16 : ∀ y, y ≠ a → (rt0 S a s x) 16 y = S 16 y := fun y q => by simp [rt0, mu, q]
  have e18 : ∀ y, y ≠ a → (rt0 S a s x) 18 y = S 18 y := fun y q => by simp [rt0, mu, q]
  have k1 : ∀ y, vhd S n y → y ≠ a := fun y q e => hna (e ▸ q)
  exact LV_mono (e3) (fun y q => ⟨q.1, by rw [e13, if_neg (k1 y q)]; exact q.2⟩) (fun y z q _ => ⟨by rw [x_vwt]; exact q, e18 y (k1 y (D.1.2.2.2.2.2.1 _ _ q).1)⟩) (fun y q => ⟨by rw [x_vth]; exact q, e18 y (k1 y (D.1.2.1 _ q)), by rw [e22]⟩) (fun y z q => ⟨q.1, q.2.1, by rw [e16 y (k1 y (D.1.2.2.2.2.2.2.2 _ _ q).1)]; exact q.2.2⟩) (fun x r q => by rw [x_vtq]; exact q) (fun x y _ _ _ => Or.inr ⟨by rw [x_vtr], by rw [x_vR], fun i _ => by rw [e26]⟩) (fun x r q => by rw [x_vst]; exact q) (fun x y _ _ _ => Or.inr ⟨by rw [x_vR], by rw [x_vst], fun z _ => by rw [e31]⟩) h
theorem LV_wait {a : Nat} {y : Int32} (hw : ∀ b, ¬ vwt S n a b) (h : LV S n w f t m my mk e) : LV (mu S 19 a y) n w f t m my mk e := by
  have e3 : (mu S 19 a y) 3 = S 3 := by funext i; simp [mu]
  have e4 : (mu S 19 a y) 4 = S 4 := by funext i; simp [mu]
  have e6 : (mu S 19 a y) 6 = S 6 := by funext i; simp [mu]
  have e7 : (mu S 19 a y) 7 = S 7 := by funext i; simp [mu]
  have e8 : (mu S 19 a y) 8 = S 8 := by funext i; simp [mu]
  have e9 : (mu S 19 a y) 9 = S 9 := by funext i; simp [mu]
  have e10 : (mu S 19 a y) 10 = S 10 := by funext i; simp [mu]
  have e11 : (mu S 19 a y) 11 = S 11 := by funext i; simp [mu]
  have e12 : (mu S 19 a y) 12 = S 12 := by funext i; simp [mu]
  have e13 : (mu S 19 a y) 13 = S 13 := by funext i; simp [mu]
  have e14 : (mu S 19 a y) 14 = S 14 := by funext i; simp [mu]
  have e16 : (mu S 19 a y) 16 = S 16 := by funext i; simp [mu]
  have e17 : (mu S 19 a y) 17 = S 17 := by funext i; simp [mu]
  have e18 : (mu S 19 a y) 18 = S 18 := by funext i; simp [mu]
  have e20 : (mu S 19 a y) 20 = S 20 := by funext i; simp [mu]
  have e21 : (mu S 19 a y) 21 = S 21 := by funext i; simp [mu]
  have e22 : (mu S 19 a y) 22 = S 22 := by funext i; simp [mu]
  have e23 : (mu S 19 a y) 23 = S 23 := by funext i; simp [mu]
  have e24 : (mu S 19 a y) 24 = S 24 := by funext i; simp [mu]
  have e25 : (mu S 19 a y) 25 = S 25 := by funext i; simp [mu]
  have e26 : (mu S 19 a y) 26 = S 26 := by funext i; simp [mu]
  have e28 : (mu S 19 a y) 28 = S 28 := by funext i; simp [mu]
  have e29 : (mu S 19 a y) 29 = S 29 := by funext i; simp [mu]
  have e30 : (mu S 19 a y) 30 = S 30 := by funext i; simp [mu]
  have e31 : (mu S 19 a y) 31 = S 31 := by funext i; simp [mu]
  have x_vsp : vsp (mu S 19 a y) = vsp S := by unfold vsp; simp only [N, e10]
  have x_vrt : vrt (mu S 19 a y) n = vrt S n := by unfold vrt; simp only [N, e10, e11]
  have x_vnb : vnb (mu S 19 a y) n = vnb S n := by unfold vnb; simp only [N, e9]
  have x_vms : vms (mu S 19 a y) n = vms S n := by unfold vms; simp only [N, e18]
  have x_vch : vch (mu S 19 a y) n = vch S n := by unfold vch; simp only [N, e20, e21]
  have x_vpa : vpa (mu S 19 a y) n = vpa S n := by unfold vpa; simp only [N, e16]
  have x_vhd : vhd (mu S 19 a y) n = vhd S n := by unfold vhd; simp only [N, e13]
  have x_vth : vth (mu S 19 a y) n = vth S n := by unfold vth; simp only [N, e14]
  have x_van : van (mu S 19 a y) n = van S n := by unfold van; simp only [N, e17]
  have x_vse : vse (mu S 19 a y) n = vse S n := by unfold vse; simp only [N, e22]
  have x_vR : vR (mu S 19 a y) = vR S := by unfold vR; simp only [N, e10, e12]
  have x_vtr : vtr (mu S 19 a y) n = vtr S n := by unfold vtr; simp only [N, e23]
  have x_vtq : vtq (mu S 19 a y) n = vtq S n := by unfold vtq; simp only [N, e23]
  have x_vst : vst (mu S 19 a y) n = vst S n := by unfold vst; simp only [N, e28]
  have x_vnr : vnr (mu S 19 a y) n = vnr S n := by unfold vnr; simp only [N, e29]
  exact LV_mono (e3) (fun x q => by rw [x_vhd]; exact q) (fun x z q _ => ⟨⟨q.1, q.2.1, by have : x ≠ a := fun e => hw z (e ▸ q); simp [mu, this]; exact q.2.2⟩, by rw [e18]⟩) (fun x q => ⟨by rw [x_vth]; exact q, by rw [e18], by rw [e22]⟩) (fun x y q => by rw [x_vpa]; exact q) (fun x r q => by rw [x_vtq]; exact q) (fun x y _ _ _ => Or.inr ⟨by rw [x_vtr], by rw [x_vR], fun i _ => by rw [e26]⟩) (fun x r q => by rw [x_vst]; exact q) (fun x y _ _ _ => Or.inr ⟨by rw [x_vR], by rw [x_vst], fun z _ => by rw [e31]⟩) h
theorem LV_thr {a : Nat} {y : Int32} (ha : ¬ vth S n a) (hw : ∀ b, ¬ vwt S n a b) (h : LV S n w f t m my mk e) : LV (mu (mu (mu S 19 a (-1)) 14 a 1) 22 a y) n w f t m my mk e := by
  have e3 : (mu (mu (mu S 19 a (-1)) 14 a 1) 22 a y) 3 = S 3 := by funext i; simp [mu]
  have e4 : (mu (mu (mu S 19 a (-1)) 14 a 1) 22 a y) 4 = S 4 := by funext i; simp [mu]
  have e6 : (mu (mu (mu S 19 a (-1)) 14 a 1) 22 a y) 6 = S 6 := by funext i; simp [mu]
  have e7 : (mu (mu (mu S 19 a (-1)) 14 a 1) 22 a y) 7 = S 7 := by funext i; simp [mu]
  have e8 : (mu (mu (mu S 19 a (-1)) 14 a 1) 22 a y) 8 = S 8 := by funext i; simp [mu]
  have e9 : (mu (mu (mu S 19 a (-1)) 14 a 1) 22 a y) 9 = S 9 := by funext i; simp [mu]
  have e10 : (mu (mu (mu S 19 a (-1)) 14 a 1) 22 a y) 10 = S 10 := by funext i; simp [mu]
  have e11 : (mu (mu (mu S 19 a (-1)) 14 a 1) 22 a y) 11 = S 11 := by funext i; simp [mu]
  have e12 : (mu (mu (mu S 19 a (-1)) 14 a 1) 22 a y) 12 = S 12 := by funext i; simp [mu]
  have e13 : (mu (mu (mu S 19 a (-1)) 14 a 1) 22 a y) 13 = S 13 := by funext i; simp [mu]
  have e16 : (mu (mu (mu S 19 a (-1)) 14 a 1) 22 a y) 16 = S 16 := by funext i; simp [mu]
  have e17 : (mu (mu (mu S 19 a (-1)) 14 a 1) 22 a y) 17 = S 17 := by funext i; simp [mu]
  have e18 : (mu (mu (mu S 19 a (-1)) 14 a 1) 22 a y) 18 = S 18 := by funext i; simp [mu]
  have e20 : (mu (mu (mu S 19 a (-1)) 14 a 1) 22 a y) 20 = S 20 := by funext i; simp [mu]
  have e21 : (mu (mu (mu S 19 a (-1)) 14 a 1) 22 a y) 21 = S 21 := by funext i; simp [mu]
  have e23 : (mu (mu (mu S 19 a (-1)) 14 a 1) 22 a y) 23 = S 23 := by funext i; simp [mu]
  have e24 : (mu (mu (mu S 19 a (-1)) 14 a 1) 22 a y) 24 = S 24 := by funext i; simp [mu]
  have e25 : (mu (mu (mu S 19 a (-1)) 14 a 1) 22 a y) 25 = S 25 := by funext i; simp [mu]
  have e26 : (mu (mu (mu S 19 a (-1)) 14 a 1) 22 a y) 26 = S 26 := by funext i; simp [mu]
  have e28 : (mu (mu (mu S 19 a (-1)) 14 a 1) 22 a y) 28 = S 28 := by funext i; simp [mu]
  have e29 : (mu (mu (mu S 19 a (-1)) 14 a 1) 22 a y) 29 = S 29 := by funext i; simp [mu]
  have e30 : (mu (mu (mu S 19 a (-1)) 14 a 1) 22 a y) 30 = S 30 := by funext i; simp [mu]
  have e31 : (mu (mu (mu S 19 a (-1)) 14 a 1) 22 a y) 31 = S 31 := by funext i; simp [mu]
  have x_vsp : vsp (mu (mu (mu S 19 a (-1)) 14 a 1) 22 a y) = vsp S := by unfold vsp; simp only [N, e10]
  have x_vrt : vrt (mu (mu (mu S 19 a (-1)) 14 a 1) 22 a y) n = vrt S n := by unfold vrt; simp only [N, e10, e11]
  have x_vnb : vnb (mu (mu (mu S 19 a (-1)) 14 a 1) 22 a y) n = vnb S n := by unfold vnb; simp only [N, e9]
  have x_vms : vms (mu (mu (mu S 19 a (-1)) 14 a 1) 22 a y) n = vms S n := by unfold vms; simp only [N, e18]
  have x_vch : vch (mu (mu (mu S 19 a (-1)) 14 a 1) 22 a y) n = vch S n := by unfold vch; simp only [N, e20, e21]
  have x_vpa : vpa (mu (mu (mu S 19 a (-1)) 14 a 1) 22 a y) n = vpa S n := by unfold vpa; simp only [N, e16]
  have x_vhd : vhd (mu (mu (mu S 19 a (-1)) 14 a 1) 22 a y) n = vhd S n := by unfold vhd; simp only [N, e13]
  have x_van : van (mu (mu (mu S 19 a (-1)) 14 a 1) 22 a y) n = van S n := by unfold van; simp only [N, e17]
  have x_vR : vR (mu (mu (mu S 19 a (-1)) 14 a 1) 22 a y) = vR S := by unfold vR; simp only [N, e10, e12]
  have x_vtr : vtr (mu (mu (mu S 19 a (-1)) 14 a 1) 22 a y) n = vtr S n := by unfold vtr; simp only [N, e23]
  have x_vtq : vtq (mu (mu (mu S 19 a (-1)) 14 a 1) 22 a y) n = vtq S n := by unfold vtq; simp only [N, e23]
  have x_vst : vst (mu (mu (mu S 19 a (-1)) 14 a 1) 22 a y) n = vst S n := by unfold vst; simp only [N, e28]
  have x_vnr : vnr (mu (mu (mu S 19 a (-1)) 14 a 1) 22 a y) n = vnr S n := by unfold vnr; simp only [N, e29]
  have k1 : ∀ x, vth S n x → x ≠ a := fun x q e => ha (e ▸ q)
  have e14 : ∀ x, x ≠ a → (mu (mu (mu S 19 a (-1)) 14 a 1) 22 a y) 14 x = S 14 x := fun x q => by simp [mu, q]
  have e22 : ∀ x, x ≠ a → (mu (mu (mu S 19 a (-1)) 14 a 1) 22 a y) 22 x = S 22 x := fun x q => by simp [mu, q]
  have e19 : ∀ x, x ≠ a → (mu (mu (mu S 19 a (-1)) 14 a 1) 22 a y) 19 x = S 19 x := fun x q => by simp [mu, q]
  exact LV_mono (e3) (fun x q => by rw [x_vhd]; exact q) (fun x z q _ => ⟨⟨q.1, q.2.1, by rw [e19 x (fun e => hw z (e ▸ q))]; exact q.2.2⟩, by rw [e18]⟩) (fun x q => ⟨⟨q.1, by rw [e14 x (k1 x q)]; exact q.2⟩, by rw [e18], e22 x (k1 x q)⟩) (fun x y q => by rw [x_vpa]; exact q) (fun x r q => by rw [x_vtq]; exact q) (fun x y _ _ _ => Or.inr ⟨by rw [x_vtr], by rw [x_vR], fun i _ => by rw [e26]⟩) (fun x r q => by rw [x_vst]; exact q) (fun x y _ _ _ => Or.inr ⟨by rw [x_vR], by rw [x_vst], fun z _ => by rw [e31]⟩) h
theorem LV_back {a b : Nat} (D : vDI S n A hh) (hw : vwt S n a b) (hb : vth S n b) (h : LV S n w f t m my mk e) : LV (mu (mu (mu (mu S 18 a (S 18 b)) 20 (8 * a + N S 21 a) (nI b)) 21 a (nI (N S 21 a + 1))) 19 a (-1)) n w f t m my mk e := by
  have e3 : (mu (mu (mu (mu S 18 a (S 18 b)) 20 (8 * a + N S 21 a) (nI b)) 21 a (nI (N S 21 a + 1))) 19 a (-1)) 3 = S 3 := by funext i; simp [mu]
  have e4 : (mu (mu (mu (mu S 18 a (S 18 b)) 20 (8 * a + N S 21 a) (nI b)) 21 a (nI (N S 21 a + 1))) 19 a (-1)) 4 = S 4 := by funext i; simp [mu]
  have e6 : (mu (mu (mu (mu S 18 a (S 18 b)) 20 (8 * a + N S 21 a) (nI b)) 21 a (nI (N S 21 a + 1))) 19 a (-1)) 6 = S 6 := by funext i; simp [mu]
  have e7 : (mu (mu (mu (mu S 18 a (S 18 b)) 20 (8 * a + N S 21 a) (nI b)) 21 a (nI (N S 21 a + 1))) 19 a (-1)) 7 = S 7 := by funext i; simp [mu]
  have e8 : (mu (mu (mu (mu S 18 a (S 18 b)) 20 (8 * a + N S 21 a) (nI b)) 21 a (nI (N S 21 a + 1))) 19 a (-1)) 8 = S 8 := by funext i; simp [mu]
  have e9 : (mu (mu (mu (mu S 18 a (S 18 b)) 20 (8 * a + N S 21 a) (nI b)) 21 a (nI (N S 21 a + 1))) 19 a (-1)) 9 = S 9 := by funext i; simp [mu]
  have e10 : (mu (mu (mu (mu S 18 a (S 18 b)) 20 (8 * a + N S 21 a) (nI b)) 21 a (nI (N S 21 a + 1))) 19 a (-1)) 10 = S 10 := by funext i; simp [mu]
  have e11 : (mu (mu (mu (mu S 18 a (S 18 b)) 20 (8 * a + N S 21 a) (nI b)) 21 a (nI (N S 21 a + 1))) 19 a (-1)) 11 = S 11 := by funext i; simp [mu]
  have e12 : (mu (mu (mu (mu S 18 a (S 18 b)) 20 (8 * a + N S 21 a) (nI b)) 21 a (nI (N S 21 a + 1))) 19 a (-1)) 12 = S 12 := by funext i; simp [mu]
  have e13 : (mu (mu (mu (mu S 18 a (S 18 b)) 20 (8 * a + N S 21 a) (nI b)) 21 a (nI (N S 21 a + 1))) 19 a (-1)) 13 = S 13 := by funext i; simp [mu]
  have e14 : (mu (mu (mu (mu S 18 a (S 18 b)) 20 (8 * a + N S 21 a) (nI b)) 21 a (nI (N S 21 a + 1))) 19 a (-1)) 14 = S 14 := by funext i; simp [mu]
  have e16 : (mu (mu (mu (mu S 18 a (S 18 b)) 20 (8 * a + N S 21 a) (nI b)) 21 a (nI (N S 21 a + 1))) 19 a (-1)) 16 = S 16 := by funext i; simp [mu]
  have e17 : (mu (mu (mu (mu S 18 a (S 18 b)) 20 (8 * a + N S 21 a) (nI b)) 21 a (nI (N S 21 a + 1))) 19 a (-1)) 17 = S 17 := by funext i; simp [mu]
  have e22 : (mu (mu (mu (mu S 18 a (S 18 b)) 20 (8 * a + N S 21 a) (nI b)) 21 a (nI (N S 21 a + 1))) 19 a (-1)) 22 = S 22 := by funext i; simp [mu]
  have e23 : (mu (mu (mu (mu S 18 a (S 18 b)) 20 (8 * a + N S 21 a) (nI b)) 21 a (nI (N S 21 a + 1))) 19 a (-1)) 23 = S 23 := by funext i; simp [mu]
  have e24 : (mu (mu (mu (mu S 18 a (S 18 b)) 20 (8 * a + N S 21 a) (nI b)) 21 a (nI (N S 21 a + 1))) 19 a (-1)) 24 = S 24 := by funext i; simp [mu]
  have e25 : (mu (mu (mu (mu S 18 a (S 18 b)) 20 (8 * a + N S 21 a) (nI b)) 21 a (nI (N S 21 a + 1))) 19 a (-1)) 25 = S 25 := by funext i; simp [mu]
  have e26 : (mu (mu (mu (mu S 18 a (S 18 b)) 20 (8 * a + N S 21 a) (nI b)) 21 a (nI (N S 21 a + 1))) 19 a (-1)) 26 = S 26 := by funext i; simp [mu]
  have e28 : (mu (mu (mu (mu S 18 a (S 18 b)) 20 (8 * a + N S 21 a) (nI b)) 21 a (nI (N S 21 a + 1))) 19 a (-1)) 28 = S 28 := by funext i; simp [mu]
  have e29 : (mu (mu (mu (mu S 18 a (S 18 b)) 20 (8 * a + N S 21 a) (nI b)) 21 a (nI (N S 21 a + 1))) 19 a (-1)) 29 = S 29 := by funext i; simp [mu]
  have e30 : (mu (mu (mu (mu S 18 a (S 18 b)) 20 (8 * a + N S 21 a) (nI b)) 21 a (nI (N S 21 a + 1))) 19 a (-1)) 30 = S 30 := by funext i; simp [mu]
  have e31 : (mu (mu (mu (mu S 18 a (S 18 b)) 20 (8 * a + N S 21 a) (nI b)) 21 a (nI (N S 21 a + 1))) 19 a (-1)) 31 = S 31 := by funext i; simp [mu]
  have x_vsp : vsp (mu (mu (mu (mu S 18 a (S 18 b)) 20 (8 * a + N S 21 a) (nI b)) 21 a (nI (N S 21 a + 1))) 19 a (-1)) = vsp S := by unfold vsp; simp only [N, e10]
  have x_vrt : vrt (mu (mu (mu (mu S 18 a (S 18 b)) 20 (8 * a + N S 21 a) (nI b)) 21 a (nI (N S 21 a + 1))) 19 a (-1)) n = vrt S n := by unfold vrt; simp only [N, e10, e11]
  have x_vnb : vnb (mu (mu (mu (mu S 18 a (S 18 b)) 20 (8 * a + N S 21 a) (nI b)) 21 a (nI (N S 21 a + 1))) 19 a (-1)) n = vnb S n := by unfold vnb; simp only [N, e9]
  have x_vpa : vpa (mu (mu (mu (mu S 18 a (S 18 b)) 20 (8 * a + N S 21 a) (nI b)) 21 a (nI (N S 21 a + 1))) 19 a (-1)) n = vpa S n := by unfold vpa; simp only [N, e16]
  have x_vhd : vhd (mu (mu (mu (mu S 18 a (S 18 b)) 20 (8 * a + N S 21 a) (nI b)) 21 a (nI (N S 21 a + 1))) 19 a (-1)) n = vhd S n := by unfold vhd; simp only [N, e13]
  have x_vth : vth (mu (mu (mu (mu S 18 a (S 18 b)) 20 (8 * a + N S 21 a) (nI b)) 21 a (nI (N S 21 a + 1))) 19 a (-1)) n = vth S n := by unfold vth; simp only [N, e14]
  have x_van : van (mu (mu (mu (mu S 18 a (S 18 b)) 20 (8 * a + N S 21 a) (nI b)) 21 a (nI (N S 21 a + 1))) 19 a (-1)) n = van S n := by unfold van; simp only [N, e17]
  have x_vse : vse (mu (mu (mu (mu S 18 a (S 18 b)) 20 (8 * a + N S 21 a) (nI b)) 21 a (nI (N S 21 a + 1))) 19 a (-1)) n = vse S n := by unfold vse; simp only [N, e22]
  have x_vR : vR (mu (mu (mu (mu S 18 a (S 18 b)) 20 (8 * a + N S 21 a) (nI b)) 21 a (nI (N S 21 a + 1))) 19 a (-1)) = vR S := by unfold vR; simp only [N, e10, e12]
  have x_vtr : vtr (mu (mu (mu (mu S 18 a (S 18 b)) 20 (8 * a + N S 21 a) (nI b)) 21 a (nI (N S 21 a + 1))) 19 a (-1)) n = vtr S n := by unfold vtr; simp only [N, e23]
  have x_vtq : vtq (mu (mu (mu (mu S 18 a (S 18 b)) 20 (8 * a + N S 21 a) (nI b)) 21 a (nI (N S 21 a + 1))) 19 a (-1)) n = vtq S n := by unfold vtq; simp only [N, e23]
  have x_vst : vst (mu (mu (mu (mu S 18 a (S 18 b)) 20 (8 * a + N S 21 a) (nI b)) 21 a (nI (N S 21 a + 1))) 19 a (-1)) n = vst S n := by unfold vst; simp only [N, e28]
  have x_vnr : vnr (mu (mu (mu (mu S 18 a (S 18 b)) 20 (8 * a + N S 21 a) (nI b)) 21 a (nI (N S 21 a + 1))) 19 a (-1)) n = vnr S n := by unfold vnr; simp only [N, e29]
  have k0 := D.1.2.2.2.2.2.1 a b hw
  have k1 : ∀ x, vth S n x → x ≠ a := fun x q e => k0.2.1 (e ▸ q)
  have e18 : ∀ x, x ≠ a → (mu (mu (mu (mu S 18 a (S 18 b)) 20 (8 * a + N S 21 a) (nI b)) 21 a (nI (N S 21 a + 1))) 19 a (-1)) 18 x = S 18 x := fun x q => by simp [mu, q]
  have e19 : ∀ x, x ≠ a → (mu (mu (mu (mu S 18 a (S 18 b)) 20 (8 * a + N S 21 a) (nI b)) 21 a (nI (N S 21 a + 1))) 19 a (-1)) 19 x = S 19 x := fun x q => by simp [mu, q]
  have k2 : ∀ x z, vwt S n x z → ¬ vhd S n z → x ≠ a := fun x z q q2 e => q2 (by
    have := D.2.2.1.2.2.1 _ _ _ hw (e ▸ q)
    rw [← this]; exact D.1.2.1 _ hb)
  exact LV_mono (e3) (fun x q => by rw [x_vhd]; exact q) (fun x z q q2 => ⟨⟨q.1, q.2.1, by rw [e19 x (k2 x z q (by rw [x_vhd] at q2; exact q2))]; exact q.2.2⟩, e18 x (k2 x z q (by rw [x_vhd] at q2; exact q2))⟩) (fun x q => ⟨by rw [x_vth]; exact q, e18 x (k1 x q), by rw [e22]⟩) (fun x y q => by rw [x_vpa]; exact q) (fun x r q => by rw [x_vtq]; exact q) (fun x y _ _ _ => Or.inr ⟨by rw [x_vtr], by rw [x_vR], fun i _ => by rw [e26]⟩) (fun x r q => by rw [x_vst]; exact q) (fun x y _ _ _ => Or.inr ⟨by rw [x_vR], by rw [x_vst], fun z _ => by rw [e31]⟩) h
theorem LV_dlv {b : Nat} (hI : IS S n np A dd hh) (h8 : n ≤ 8) (hb : b < n) (hu : vtq S n b < vtr S n b) (hr : S 38 20 = nI (vtr S n b)) (hR : vtr S n b < 2 ^ 31) (h : LV S n w f t m my mk e) : LV (tb0 S b) n w f t m my mk e := by
  have e3 : (tb0 S b) 3 = S 3 := by funext i; simp [tb0, cpB, tb1, mu]
  have e4 : (tb0 S b) 4 = S 4 := by funext i; simp [tb0, cpB, tb1, mu]
  have e6 : (tb0 S b) 6 = S 6 := by funext i; simp [tb0, cpB, tb1, mu]
  have e7 : (tb0 S b) 7 = S 7 := by funext i; simp [tb0, cpB, tb1, mu]
  have e8 : (tb0 S b) 8 = S 8 := by funext i; simp [tb0, cpB, tb1, mu]
  have e9 : (tb0 S b) 9 = S 9 := by funext i; simp [tb0, cpB, tb1, mu]
  have e10 : (tb0 S b) 10 = S 10 := by funext i; simp [tb0, cpB, tb1, mu]
  have e11 : (tb0 S b) 11 = S 11 := by funext i; simp [tb0, cpB, tb1, mu]
  have e12 : (tb0 S b) 12 = S 12 := by funext i; simp [tb0, cpB, tb1, mu]
  have e13 : (tb0 S b) 13 = S 13 := by funext i; simp [tb0, cpB, tb1, mu]
  have e14 : (tb0 S b) 14 = S 14 := by funext i; simp [tb0, cpB, tb1, mu]
  have e16 : (tb0 S b) 16 = S 16 := by funext i; simp [tb0, cpB, tb1, mu]
  have e17 : (tb0 S b) 17 = S 17 := by funext i; simp [tb0, cpB, tb1, mu]
  have e18 : (tb0 S b) 18 = S 18 := by funext i; simp [tb0, cpB, tb1, mu]
  have e19 : (tb0 S b) 19 = S 19 := by funext i; simp [tb0, cpB, tb1, mu]
  have e20 : (tb0 S b) 20 = S 20 := by funext i; simp [tb0, cpB, tb1, mu]
  have e21 : (tb0 S b) 21 = S 21 := by funext i; simp [tb0, cpB, tb1, mu]
  have e22 : (tb0 S b) 22 = S 22 := by funext i; simp [tb0, cpB, tb1, mu]
  have e28 : (tb0 S b) 28 = S 28 := by funext i; simp [tb0, cpB, tb1, mu]
  have e29 : (tb0 S b) 29 = S 29 := by funext i; simp [tb0, cpB, tb1, mu]
  have e30 : (tb0 S b) 30 = S 30 := by funext i; simp [tb0, cpB, tb1, mu]
  have e31 : (tb0 S b) 31 = S 31 := by funext i; simp [tb0, cpB, tb1, mu]
  have x_vsp : vsp (tb0 S b) = vsp S := by unfold vsp; simp only [N, e10]
  have x_vrt : vrt (tb0 S b) n = vrt S n := by unfold vrt; simp only [N, e10, e11]
  have x_vnb : vnb (tb0 S b) n = vnb S n := by unfold vnb; simp only [N, e9]
  have x_vms : vms (tb0 S b) n = vms S n := by unfold vms; simp only [N, e18]
  have x_vch : vch (tb0 S b) n = vch S n := by unfold vch; simp only [N, e20, e21]
  have x_vwt : vwt (tb0 S b) n = vwt S n := by unfold vwt; simp only [N, e19]
  have x_vpa : vpa (tb0 S b) n = vpa S n := by unfold vpa; simp only [N, e16]
  have x_vhd : vhd (tb0 S b) n = vhd S n := by unfold vhd; simp only [N, e13]
  have x_vth : vth (tb0 S b) n = vth S n := by unfold vth; simp only [N, e14]
  have x_van : van (tb0 S b) n = van S n := by unfold van; simp only [N, e17]
  have x_vse : vse (tb0 S b) n = vse S n := by unfold vse; simp only [N, e22]
  have x_vR : vR (tb0 S b) = vR S := by unfold vR; simp only [N, e10, e12]
  have x_vst : vst (tb0 S b) n = vst S n := by unfold vst; simp only [N, e28]
  have x_vnr : vnr (tb0 S b) n = vnr S n := by unfold vnr; simp only [N, e29]
  have f23 : ∀ x, (tb0 S b) 23 x = if x = 8 + b then nI (vtr S n b) else S 23 x := fun x => by rw [← hr]; simp [tb0, cpB, tb1, mu]
  have f26 : ∀ x, x < 2048 → (tb0 S b) 26 x = S 26 x := fun x q => by
    show (if 26 = 26 ∧ 2048 + 256 * b ≤ x ∧ x < 2048 + 256 * b + N S 39 20 then tb1 S b 41 _ else tb1 S b 26 x) = _
    rw [if_neg (by omega)]
    simp [tb1, mu]
  have y1 : vtr (tb0 S b) n = vtr S n := by
    funext x; show (if x < n then ((tb0 S b) 23 x).toNatClampNeg else 0) = (if x < n then (S 23 x).toNatClampNeg else 0)
    by_cases q : x < n
    · rw [if_pos q, if_pos q, f23, if_neg (by omega)]
    · rw [if_neg q, if_neg q]
  have y2 : ∀ x, vtq (tb0 S b) n x = if x = b then vtr S n b else vtq S n x := fun x => by
    show (if x < n then ((tb0 S b) 23 (8 + x)).toNatClampNeg else 0) = _
    by_cases q : x = b
    · rw [if_pos q, q, if_pos hb, f23, if_pos rfl, nI_clamp hR]
    · rw [if_neg q, f23, if_neg (by omega : ¬ 8 + x = 8 + b)]; rfl
  exact LV_mono (e3) (fun x q => by rw [x_vhd]; exact q) (fun x y q _ => ⟨by rw [x_vwt]; exact q, by rw [e18]⟩) (fun x q => ⟨by rw [x_vth]; exact q, by rw [e18], by rw [e22]⟩) (fun x y q => by rw [x_vpa]; exact q) (fun x r q => by
    rw [y2]; by_cases z : x = b
    · rw [if_pos z]; rw [z] at q; omega
    · rw [if_neg z]; exact q) (fun x y q1 _ q3 => Or.inr ⟨by rw [y1], by rw [x_vR], fun i hi => f26 _ (by have := (hI.2.2.2.1.1 x q3).2.2.1; have := q1.1; omega)⟩) (fun x r q => by rw [x_vst]; exact q) (fun x y _ _ _ => Or.inr ⟨by rw [x_vR], by rw [x_vst], fun z _ => by rw [e31]⟩) h
theorem LV_make {a cc z w0 ex : Nat} {r : Int32} (hI : IX S n np A dd hh a) (h8 : n ≤ 8) (ha : a < n) (hlt : vtr S n a < vR S a) (hw2 : w0 ≤ 256) (h : LV S n w f t m my mk e) : LV (mkS S a r np cc z w0) n w f t m my mk e := by
  have e3 : (mkS S a r np cc z w0) 3 = S 3 := mkS_row (by decide) (by decide) (by decide) (by decide) (by decide) (by decide) (by decide)
  have e4 : (mkS S a r np cc z w0) 4 = S 4 := mkS_row (by decide) (by decide) (by decide) (by decide) (by decide) (by decide) (by decide)
  have e6 : (mkS S a r np cc z w0) 6 = S 6 := mkS_row (by decide) (by decide) (by decide) (by decide) (by decide) (by decide) (by decide)
  have e7 : (mkS S a r np cc z w0) 7 = S 7 := mkS_row (by decide) (by decide) (by decide) (by decide) (by decide) (by decide) (by decide)
  have e8 : (mkS S a r np cc z w0) 8 = S 8 := mkS_row (by decide) (by decide) (by decide) (by decide) (by decide) (by decide) (by decide)
  have e9 : (mkS S a r np cc z w0) 9 = S 9 := mkS_row (by decide) (by decide) (by decide) (by decide) (by decide) (by decide) (by decide)
  have e10 : (mkS S a r np cc z w0) 10 = S 10 := mkS_row (by decide) (by decide) (by decide) (by decide) (by decide) (by decide) (by decide)
  have e11 : (mkS S a r np cc z w0) 11 = S 11 := mkS_row (by decide) (by decide) (by decide) (by decide) (by decide) (by decide) (by decide)
  have e12 : (mkS S a r np cc z w0) 12 = S 12 := mkS_row (by decide) (by decide) (by decide) (by decide) (by decide) (by decide) (by decide)
  have e13 : (mkS S a r np cc z w0) 13 = S 13 := mkS_row (by decide) (by decide) (by decide) (by decide) (by decide) (by decide) (by decide)
  have e14 : (mkS S a r np cc z w0) 14 = S 14 := mkS_row (by decide) (by decide) (by decide) (by decide) (by decide) (by decide) (by decide)
  have e16 : (mkS S a r np cc z w0) 16 = S 16 := mkS_row (by decide) (by decide) (by decide) (by decide) (by decide) (by decide) (by decide)
  have e17 : (mkS S a r np cc z w0) 17 = S 17 := mkS_row (by decide) (by decide) (by decide) (by decide) (by decide) (by decide) (by decide)
  have e18 : (mkS S a r np cc z w0) 18 = S 18 := mkS_row (by decide) (by decide) (by decide) (by decide) (by decide) (by decide) (by decide)
  have e19 : (mkS S a r np cc z w0) 19 = S 19 := mkS_row (by decide) (by decide) (by decide) (by decide) (by decide) (by decide) (by decide)
  have e20 : (mkS S a r np cc z w0) 20 = S 20 := mkS_row (by decide) (by decide) (by decide) (by decide) (by decide) (by decide) (by decide)
  have e21 : (mkS S a r np cc z w0) 21 = S 21 := mkS_row (by decide) (by decide) (by decide) (by decide) (by decide) (by decide) (by decide)
  have e22 : (mkS S a r np cc z w0) 22 = S 22 := mkS_row (by decide) (by decide) (by decide) (by decide) (by decide) (by decide) (by decide)
  have e28 : (mkS S a r np cc z w0) 28 = S 28 := mkS_row (by decide) (by decide) (by decide) (by decide) (by decide) (by decide) (by decide)
  have e29 : (mkS S a r np cc z w0) 29 = S 29 := mkS_row (by decide) (by decide) (by decide) (by decide) (by decide) (by decide) (by decide)
  have e30 : (mkS S a r np cc z w0) 30 = S 30 := mkS_row (by decide) (by decide) (by decide) (by decide) (by decide) (by decide) (by decide)
  have e31 : (mkS S a r np cc z w0) 31 = S 31 := mkS_row (by decide) (by decide) (by decide) (by decide) (by decide) (by decide) (by decide)
  have x_vsp : vsp (mkS S a r np cc z w0) = vsp S := by unfold vsp; simp only [N, e10]
  have x_vrt : vrt (mkS S a r np cc z w0) n = vrt S n := by unfold vrt; simp only [N, e10, e11]
  have x_vnb : vnb (mkS S a r np cc z w0) n = vnb S n := by unfold vnb; simp only [N, e9]
  have x_vms : vms (mkS S a r np cc z w0) n = vms S n := by unfold vms; simp only [N, e18]
  have x_vch : vch (mkS S a r np cc z w0) n = vch S n := by unfold vch; simp only [N, e20, e21]
  have x_vwt : vwt (mkS S a r np cc z w0) n = vwt S n := by unfold vwt; simp only [N, e19]
  have x_vpa : vpa (mkS S a r np cc z w0) n = vpa S n := by unfold vpa; simp only [N, e16]
  have x_vhd : vhd (mkS S a r np cc z w0) n = vhd S n := by unfold vhd; simp only [N, e13]
  have x_vth : vth (mkS S a r np cc z w0) n = vth S n := by unfold vth; simp only [N, e14]
  have x_van : van (mkS S a r np cc z w0) n = van S n := by unfold van; simp only [N, e17]
  have x_vse : vse (mkS S a r np cc z w0) n = vse S n := by unfold vse; simp only [N, e22]
  have x_vR : vR (mkS S a r np cc z w0) = vR S := by unfold vR; simp only [N, e10, e12]
  have x_vst : vst (mkS S a r np cc z w0) n = vst S n := by unfold vst; simp only [N, e28]
  have x_vnr : vnr (mkS S a r np cc z w0) n = vnr S n := by unfold vnr; simp only [N, e29]
  have f23 : ∀ x, (mkS S a r np cc z w0) 23 x = if x = a then r else S 23 x := fun x => by simp [mkS, mkT, mk1, mkC, rsR, mu]
  have f26 : ∀ x, (mkS S a r np cc z w0) 26 x = if 256 * a ≤ x ∧ x < 256 * a + w0 then nI (tabN S a np cc z (x - 256 * a)) else S 26 x := fun x => mkS_26
  have y1 : ∀ x, x ≠ a → vtr (mkS S a r np cc z w0) n x = vtr S n x := fun x q => by
    show (if x < n then ((mkS S a r np cc z w0) 23 x).toNatClampNeg else 0) = _
    rw [f23, if_neg q]; rfl
  have y2 : vtq (mkS S a r np cc z w0) n = vtq S n := by
    funext x; show (if x < n then ((mkS S a r np cc z w0) 23 (8 + x)).toNatClampNeg else 0) = _
    have : (mkS S a r np cc z w0) 23 (8 + x) = S 23 (8 + x) := by rw [f23, if_neg (by omega)]
    rw [this]; rfl
  exact LV_mono (e3) (fun x q => by rw [x_vhd]; exact q) (fun x y q _ => ⟨by rw [x_vwt]; exact q, by rw [e18]⟩) (fun x q => ⟨by rw [x_vth]; exact q, by rw [e18], by rw [e22]⟩) (fun x y q => by rw [x_vpa]; exact q) (fun x r q => by rw [y2]; exact q) (fun x y q1 q2 q3 => by
    have hx : x ≠ a := fun e => by rw [e] at q2; omega
    refine Or.inr ⟨y1 x hx, by rw [x_vR], fun i hi => ?_⟩
    have := (hI.2.2.2.1.1 x hx q3).2.2.1
    rw [f26, if_neg (by omega)]) (fun x r q => by rw [x_vst]; exact q) (fun x y _ _ _ => Or.inr ⟨by rw [x_vR], by rw [x_vst], fun z _ => by rw [e31]⟩) h
theorem LV_none {a : Nat} {y : Int32} (h : LV S n w f t m my mk e) : LV (mu S 29 a y) n w f t m my mk e := by
  have e3 : (mu S 29 a y) 3 = S 3 := by funext i; simp [mu]
  have e4 : (mu S 29 a y) 4 = S 4 := by funext i; simp [mu]
  have e6 : (mu S 29 a y) 6 = S 6 := by funext i; simp [mu]
  have e7 : (mu S 29 a y) 7 = S 7 := by funext i; simp [mu]
  have e8 : (mu S 29 a y) 8 = S 8 := by funext i; simp [mu]
  have e9 : (mu S 29 a y) 9 = S 9 := by funext i; simp [mu]
  have e10 : (mu S 29 a y) 10 = S 10 := by funext i; simp [mu]
  have e11 : (mu S 29 a y) 11 = S 11 := by funext i; simp [mu]
  have e12 : (mu S 29 a y) 12 = S 12 := by funext i; simp [mu]
  have e13 : (mu S 29 a y) 13 = S 13 := by funext i; simp [mu]
  have e14 : (mu S 29 a y) 14 = S 14 := by funext i; simp [mu]
  have e16 : (mu S 29 a y) 16 = S 16 := by funext i; simp [mu]
  have e17 : (mu S 29 a y) 17 = S 17 := by funext i; simp [mu]
  have e18 : (mu S 29 a y) 18 = S 18 := by funext i; simp [mu]
  have e19 : (mu S 29 a y) 19 = S 19 := by funext i; simp [mu]
  have e20 : (mu S 29 a y) 20 = S 20 := by funext i; simp [mu]
  have e21 : (mu S 29 a y) 21 = S 21 := by funext i; simp [mu]
  have e22 : (mu S 29 a y) 22 = S 22 := by funext i; simp [mu]
  have e23 : (mu S 29 a y) 23 = S 23 := by funext i; simp [mu]
  have e24 : (mu S 29 a y) 24 = S 24 := by funext i; simp [mu]
  have e25 : (mu S 29 a y) 25 = S 25 := by funext i; simp [mu]
  have e26 : (mu S 29 a y) 26 = S 26 := by funext i; simp [mu]
  have e28 : (mu S 29 a y) 28 = S 28 := by funext i; simp [mu]
  have e30 : (mu S 29 a y) 30 = S 30 := by funext i; simp [mu]
  have e31 : (mu S 29 a y) 31 = S 31 := by funext i; simp [mu]
  have x_vsp : vsp (mu S 29 a y) = vsp S := by unfold vsp; simp only [N, e10]
  have x_vrt : vrt (mu S 29 a y) n = vrt S n := by unfold vrt; simp only [N, e10, e11]
  have x_vnb : vnb (mu S 29 a y) n = vnb S n := by unfold vnb; simp only [N, e9]
  have x_vms : vms (mu S 29 a y) n = vms S n := by unfold vms; simp only [N, e18]
  have x_vch : vch (mu S 29 a y) n = vch S n := by unfold vch; simp only [N, e20, e21]
  have x_vwt : vwt (mu S 29 a y) n = vwt S n := by unfold vwt; simp only [N, e19]
  have x_vpa : vpa (mu S 29 a y) n = vpa S n := by unfold vpa; simp only [N, e16]
  have x_vhd : vhd (mu S 29 a y) n = vhd S n := by unfold vhd; simp only [N, e13]
  have x_vth : vth (mu S 29 a y) n = vth S n := by unfold vth; simp only [N, e14]
  have x_van : van (mu S 29 a y) n = van S n := by unfold van; simp only [N, e17]
  have x_vse : vse (mu S 29 a y) n = vse S n := by unfold vse; simp only [N, e22]
  have x_vR : vR (mu S 29 a y) = vR S := by unfold vR; simp only [N, e10, e12]
  have x_vtr : vtr (mu S 29 a y) n = vtr S n := by unfold vtr; simp only [N, e23]
  have x_vtq : vtq (mu S 29 a y) n = vtq S n := by unfold vtq; simp only [N, e23]
  have x_vst : vst (mu S 29 a y) n = vst S n := by unfold vst; simp only [N, e28]
  exact LV_mono (e3) (fun x q => by rw [x_vhd]; exact q) (fun x y q _ => ⟨by rw [x_vwt]; exact q, by rw [e18]⟩) (fun x q => ⟨by rw [x_vth]; exact q, by rw [e18], by rw [e22]⟩) (fun x y q => by rw [x_vpa]; exact q) (fun x r q => by rw [x_vtq]; exact q) (fun x y _ _ _ => Or.inr ⟨by rw [x_vtr], by rw [x_vR], fun i _ => by rw [e26]⟩) (fun x r q => by rw [x_vst]; exact q) (fun x y _ _ _ => Or.inr ⟨by rw [x_vR], by rw [x_vst], fun z _ => by rw [e31]⟩) h
theorem LV_cho {a : Nat} (E : vRI S n A) (D : vDI S n A hh) (h8 : n ≤ 8) (ha : a < n) (hR : vR S a < 2 ^ 31) (hlt : vst S n a < vR S a) (hrow : ∀ j, j ∈ [3, 4, 6, 7, 8, 9, 10, 11, 12, 13, 14, 16, 17, 18, 19, 20, 21, 22, 23, 24, 25, 26, 28, 29, 30, 31] → j ≠ 28 → j ≠ 30 → j ≠ 31 → T j = S j) (f28 : ∀ x, T 28 x = if x = a then nI (vR S a) else S 28 x) (f31 : ∀ i, ¬ (8 * a ≤ i ∧ i < 8 * a + 8) → T 31 i = S 31 i) (h : LV S n w f t m my mk e) : LV (T) n w f t m my mk e := by
  have e3 := hrow 3 (by decide) (by decide) (by decide) (by decide)
  have e4 := hrow 4 (by decide) (by decide) (by decide) (by decide)
  have e6 := hrow 6 (by decide) (by decide) (by decide) (by decide)
  have e7 := hrow 7 (by decide) (by decide) (by decide) (by decide)
  have e8 := hrow 8 (by decide) (by decide) (by decide) (by decide)
  have e9 := hrow 9 (by decide) (by decide) (by decide) (by decide)
  have e10 := hrow 10 (by decide) (by decide) (by decide) (by decide)
  have e11 := hrow 11 (by decide) (by decide) (by decide) (by decide)
  have e12 := hrow 12 (by decide) (by decide) (by decide) (by decide)
  have e13 := hrow 13 (by decide) (by decide) (by decide) (by decide)
  have e14 := hrow 14 (by decide) (by decide) (by decide) (by decide)
  have e16 := hrow 16 (by decide) (by decide) (by decide) (by decide)
  have e17 := hrow 17 (by decide) (by decide) (by decide) (by decide)
  have e18 := hrow 18 (by decide) (by decide) (by decide) (by decide)
  have e19 := hrow 19 (by decide) (by decide) (by decide) (by decide)
  have e20 := hrow 20 (by decide) (by decide) (by decide) (by decide)
  have e21 := hrow 21 (by decide) (by decide) (by decide) (by decide)
  have e22 := hrow 22 (by decide) (by decide) (by decide) (by decide)
  have e23 := hrow 23 (by decide) (by decide) (by decide) (by decide)
  have e24 := hrow 24 (by decide) (by decide) (by decide) (by decide)
  have e25 := hrow 25 (by decide) (by decide) (by decide) (by decide)
  have e26 := hrow 26 (by decide) (by decide) (by decide) (by decide)
  have e29 := hrow 29 (by decide) (by decide) (by decide) (by decide)
  have x_vsp : vsp (T) = vsp S := by unfold vsp; simp only [N, e10]
  have x_vrt : vrt (T) n = vrt S n := by unfold vrt; simp only [N, e10, e11]
  have x_vnb : vnb (T) n = vnb S n := by unfold vnb; simp only [N, e9]
  have x_vms : vms (T) n = vms S n := by unfold vms; simp only [N, e18]
  have x_vch : vch (T) n = vch S n := by unfold vch; simp only [N, e20, e21]
  have x_vwt : vwt (T) n = vwt S n := by unfold vwt; simp only [N, e19]
  have x_vpa : vpa (T) n = vpa S n := by unfold vpa; simp only [N, e16]
  have x_vhd : vhd (T) n = vhd S n := by unfold vhd; simp only [N, e13]
  have x_vth : vth (T) n = vth S n := by unfold vth; simp only [N, e14]
  have x_van : van (T) n = van S n := by unfold van; simp only [N, e17]
  have x_vse : vse (T) n = vse S n := by unfold vse; simp only [N, e22]
  have x_vR : vR (T) = vR S := by unfold vR; simp only [N, e10, e12]
  have x_vtr : vtr (T) n = vtr S n := by unfold vtr; simp only [N, e23]
  have x_vtq : vtq (T) n = vtq S n := by unfold vtq; simp only [N, e23]
  have x_vnr : vnr (T) n = vnr S n := by unfold vnr; simp only [N, e29]
  have y1 : ∀ x, vst T n x = if x = a then vR S a else vst S n x := fun x => by
    show (if x < n then (T 28 x).toNatClampNeg else 0) = _
    rw [f28]; by_cases q : x = a
    · rw [if_pos q, if_pos q, q, if_pos ha, nI_clamp hR]
    · rw [if_neg q, if_neg q]; rfl
  exact LV_mono (e3) (fun x q => by rw [x_vhd]; exact q) (fun x y q _ => ⟨by rw [x_vwt]; exact q, by rw [e18]⟩) (fun x q => ⟨by rw [x_vth]; exact q, by rw [e18], by rw [e22]⟩) (fun x y q => by rw [x_vpa]; exact q) (fun x r q => by rw [x_vtq]; exact q) (fun x y _ _ _ => Or.inr ⟨by rw [x_vtr], by rw [x_vR], fun i _ => by rw [e26]⟩) (fun x r q => by
    rw [y1]; by_cases z : x = a
    · rw [if_pos z]; rw [z] at q; omega
    · rw [if_neg z]; exact q) (fun x y q1 q2 _ => by
    have hs := (D.1.2.2.2.2.2.2.2 _ _ q1).2.2.2.1
    have hR2 := E.2.2.2.2.2.2.2.1 _ _ hs
    have hy : y ≠ a := fun e => by rw [e] at q2 hR2; omega
    exact Or.inr ⟨by rw [x_vR], by rw [y1, if_neg hy], fun z hz => f31 _ (by have := D.1.1 _ (D.1.2.2.2.2.2.2.2 _ _ q1).2.1; omega)⟩) h
theorem LV_chg {r : Nat} (hI : IS S n np A dd hh) (hrow : ∀ j, j ∈ [3, 4, 6, 7, 8, 9, 10, 11, 12, 13, 14, 16, 17, 18, 19, 20, 21, 22, 23, 24, 25, 26, 28, 29, 30, 31] → j ≠ 8 → j ≠ 12 → T j = S j) (hr : vrt S n r) (hlt : vtr S n r = vR S r) (h3 : ∀ x, x < n → ¬ vsp S x r → vR T x = vR S x) (hfin : ∀ x y, vpa S n x y → vsp S x r → vst S n y = vR S x → vR S x ≤ vst S n x) (h : LV S n w f t m my mk e) : LV (T) n w f t m my mk e := by
  have e3 := hrow 3 (by decide) (by decide) (by decide)
  have e4 := hrow 4 (by decide) (by decide) (by decide)
  have e6 := hrow 6 (by decide) (by decide) (by decide)
  have e7 := hrow 7 (by decide) (by decide) (by decide)
  have e9 := hrow 9 (by decide) (by decide) (by decide)
  have e10 := hrow 10 (by decide) (by decide) (by decide)
  have e11 := hrow 11 (by decide) (by decide) (by decide)
  have e13 := hrow 13 (by decide) (by decide) (by decide)
  have e14 := hrow 14 (by decide) (by decide) (by decide)
  have e16 := hrow 16 (by decide) (by decide) (by decide)
  have e17 := hrow 17 (by decide) (by decide) (by decide)
  have e18 := hrow 18 (by decide) (by decide) (by decide)
  have e19 := hrow 19 (by decide) (by decide) (by decide)
  have e20 := hrow 20 (by decide) (by decide) (by decide)
  have e21 := hrow 21 (by decide) (by decide) (by decide)
  have e22 := hrow 22 (by decide) (by decide) (by decide)
  have e23 := hrow 23 (by decide) (by decide) (by decide)
  have e24 := hrow 24 (by decide) (by decide) (by decide)
  have e25 := hrow 25 (by decide) (by decide) (by decide)
  have e26 := hrow 26 (by decide) (by decide) (by decide)
  have e28 := hrow 28 (by decide) (by decide) (by decide)
  have e29 := hrow 29 (by decide) (by decide) (by decide)
  have e30 := hrow 30 (by decide) (by decide) (by decide)
  have e31 := hrow 31 (by decide) (by decide) (by decide)
  have x_vsp : vsp (T) = vsp S := by unfold vsp; simp only [N, e10]
  have x_vrt : vrt (T) n = vrt S n := by unfold vrt; simp only [N, e10, e11]
  have x_vnb : vnb (T) n = vnb S n := by unfold vnb; simp only [N, e9]
  have x_vms : vms (T) n = vms S n := by unfold vms; simp only [N, e18]
  have x_vch : vch (T) n = vch S n := by unfold vch; simp only [N, e20, e21]
  have x_vwt : vwt (T) n = vwt S n := by unfold vwt; simp only [N, e19]
  have x_vpa : vpa (T) n = vpa S n := by unfold vpa; simp only [N, e16]
  have x_vhd : vhd (T) n = vhd S n := by unfold vhd; simp only [N, e13]
  have x_vth : vth (T) n = vth S n := by unfold vth; simp only [N, e14]
  have x_van : van (T) n = van S n := by unfold van; simp only [N, e17]
  have x_vse : vse (T) n = vse S n := by unfold vse; simp only [N, e22]
  have x_vtr : vtr (T) n = vtr S n := by unfold vtr; simp only [N, e23]
  have x_vtq : vtq (T) n = vtq S n := by unfold vtq; simp only [N, e23]
  have x_vst : vst (T) n = vst S n := by unfold vst; simp only [N, e28]
  have x_vnr : vnr (T) n = vnr S n := by unfold vnr; simp only [N, e29]
  obtain ⟨D, E, -⟩ := hI
  exact LV_mono (e3) (fun x q => by rw [x_vhd]; exact q) (fun x y q _ => ⟨by rw [x_vwt]; exact q, by rw [e18]⟩) (fun x q => ⟨by rw [x_vth]; exact q, by rw [e18], by rw [e22]⟩) (fun x y q => by rw [x_vpa]; exact q) (fun x r q => by rw [x_vtq]; exact q) (fun x y q1 q2 q3 => by
    rcases Classical.em (vsp S x r) with z | z
    · have := E.2.1 r x y hr hlt q1 z
      exact Or.inl (by rw [x_vtq, this]; exact Nat.le_refl _)
    · exact Or.inr ⟨by rw [x_vtr], h3 x q1.1 z, fun i _ => by rw [e26]⟩) (fun x r q => by rw [x_vst]; exact q) (fun x y q1 q2 _ => by
    rcases Classical.em (vsp S x r) with z | z
    · exact Or.inl (by rw [x_vst]; exact hfin x y q1 z q2)
    · exact Or.inr ⟨h3 x q1.1 z, by rw [x_vst], fun k _ => by rw [e31]⟩) h
end
