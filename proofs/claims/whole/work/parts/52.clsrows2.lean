/-! THE CLASS: more rows. Written by wip/whole/gen/p52.py -/
section
variable {Γ : jm_G} {μ : jm_Mt} {d rc rs : Nat} {Q : jm_O → jm_H → Prop} {pc : Nat} {ls : List (Option Value)} {st : List Value} {h h0 : jm_H} {x : Nat} {L : Nat → Nat → Nat} {ρ ρ0 : Nat → Nat} {sz : Nat → Nat → Nat} {C : mS}
theorem cv_ch {a k : Nat} (ha : a < sz 1 0) (hk : k < sz 4 a) (hB : cB sz) : cV sz 53 (8 * a + k) := by
  have := hB.2.2.2 a
  have e1 : (8 * a + k) / 8 = a := by omega
  have e2 : (8 * a + k) % 8 = k := by omega
  show (8 * a + k) / 8 < sz 1 0 ∧ (8 * a + k) % 8 < sz 4 ((8 * a + k) / 8)
  rw [e1, e2]
  exact ⟨ha, hk⟩
theorem co.B (hc : co Γ h x L ρ sz C) : cB sz := hc.2.2.2.2.2
theorem cr_aldS (a k : Nat) {ix : Int32} (hd : decode μ.2.1 pc = .ok (.aaload, 1)) (hc : co Γ h x L ρ sz C) (ha : a < sz 1 0) (hk : k < sz 4 a) (hix : ix = nI k) (kk : jm_W Γ μ d rc rs Q (pc + 1) ls (.ref (L 4 (8 * a + k)) :: st) h) : jm_W Γ μ d rc rs Q pc ls (.int ix :: .ref (L 3 a) :: st) h := by
  have hB := hc.B
  have := hB.2.2.2 a
  have e1 : (8 * a + k) / 8 = a := by omega
  have e2 : (8 * a + k) % 8 = k := by omega
  have q := cr_ald (μ := μ) (Q := Q) (pc := pc) (ls := ls) (st := st) (d := d) (rc := rc) (rs := rs) 6 74 (8 * a + k) (e := k) (ix := ix) (v := .ref (L 4 (8 * a + k))) hd (by decide) rfl hc (cv_ch ha hk hB) rfl e2 rfl hix (by omega) (by decide) rfl kk
  rw [show cA x L 74 (8 * a + k) = L 3 ((8 * a + k) / 8) from rfl, e1] at q
  exact q
theorem cr_ildO (a v : Nat) {ix : Int32} (hd : decode μ.2.1 pc = .ok (.iaload, 1)) (hc : co Γ h x L ρ sz C) (ha : a < sz 1 0) (hv : v < 4) (hix : ix = nI v) (kk : jm_W Γ μ d rc rs Q (pc + 1) ls (.int (C 4 (4 * a + v)) :: st) h) : jm_W Γ μ d rc rs Q pc ls (.int ix :: .ref (L 2 a) :: st) h := by
  have e1 : (4 * a + v) / 4 = a := by omega
  have e2 : (4 * a + v) % 4 = v := by omega
  have q := cr_ild (μ := μ) (Q := Q) (pc := pc) (ls := ls) (st := st) (d := d) (rc := rc) (rs := rs) 4 (4 * a + v) (e := v) (ix := ix) (v := .int (C 4 (4 * a + v))) hd hc (show 4 * a + v < 4 * sz 1 0 by omega) rfl e2 rfl hix hv (by decide) rfl kk
  rw [show cA x L 4 (4 * a + v) = L 2 ((4 * a + v) / 4) from rfl, e1] at q
  exact q
theorem cr_istO (a v : Nat) {ix y : Int32} (hd : decode μ.2.1 pc = .ok (.iastore, 1)) (hc : co Γ h x L ρ sz C) (hf : xt ρ0 h0 ρ h) (ha : a < sz 1 0) (hv : v < 4) (hix : ix = nI v) (kk : ∀ h', co Γ h' x L ρ sz (mu C 4 (4 * a + v) y) → xt ρ0 h0 ρ h' → jm_W Γ μ d rc rs Q (pc + 1) ls st h') : jm_W Γ μ d rc rs Q pc ls (.int y :: .int ix :: .ref (L 2 a) :: st) h := by
  have e1 : (4 * a + v) / 4 = a := by omega
  have e2 : (4 * a + v) % 4 = v := by omega
  have q := cr_ist (μ := μ) (Q := Q) (pc := pc) (ls := ls) (st := st) (d := d) (rc := rc) (rs := rs) 4 (4 * a + v) (e := v) (ix := ix) (y := y) hd hc hf (show 4 * a + v < 4 * sz 1 0 by omega) rfl e2 rfl (by decide) (by decide) hix hv (by decide) rfl kk
  rw [show cA x L 4 (4 * a + v) = L 2 ((4 * a + v) / 4) from rfl, e1] at q
  exact q
theorem cr_ildR (p v : Nat) {ix : Int32} (hd : decode μ.2.1 pc = .ok (.iaload, 1)) (hc : co Γ h x L ρ sz C) (ha : p < sz 6 0) (hv : v < 16) (hix : ix = nI v) (kk : jm_W Γ μ d rc rs Q (pc + 1) ls (.int (C 64 (16 * p + v)) :: st) h) : jm_W Γ μ d rc rs Q pc ls (.int ix :: .ref (L 7 p) :: st) h := by
  have e1 : (16 * p + v) / 16 = p := by omega
  have e2 : (16 * p + v) % 16 = v := by omega
  have q := cr_ild (μ := μ) (Q := Q) (pc := pc) (ls := ls) (st := st) (d := d) (rc := rc) (rs := rs) 64 (16 * p + v) (e := v) (ix := ix) (v := .int (C 64 (16 * p + v))) hd hc (show 16 * p + v < 16 * sz 6 0 by omega) rfl e2 rfl hix hv (by decide) rfl kk
  rw [show cA x L 64 (16 * p + v) = L 7 ((16 * p + v) / 16) from rfl, e1] at q
  exact q
theorem cr_istR (p v : Nat) {ix y : Int32} (hd : decode μ.2.1 pc = .ok (.iastore, 1)) (hc : co Γ h x L ρ sz C) (hf : xt ρ0 h0 ρ h) (ha : p < sz 6 0) (hv : v < 16) (hix : ix = nI v) (kk : ∀ h', co Γ h' x L ρ sz (mu C 64 (16 * p + v) y) → xt ρ0 h0 ρ h' → jm_W Γ μ d rc rs Q (pc + 1) ls st h') : jm_W Γ μ d rc rs Q pc ls (.int y :: .int ix :: .ref (L 7 p) :: st) h := by
  have e1 : (16 * p + v) / 16 = p := by omega
  have e2 : (16 * p + v) % 16 = v := by omega
  have q := cr_ist (μ := μ) (Q := Q) (pc := pc) (ls := ls) (st := st) (d := d) (rc := rc) (rs := rs) 64 (16 * p + v) (e := v) (ix := ix) (y := y) hd hc hf (show 16 * p + v < 16 * sz 6 0 by omega) rfl e2 rfl (by decide) (by decide) hix hv (by decide) rfl kk
  rw [show cA x L 64 (16 * p + v) = L 7 ((16 * p + v) / 16) from rfl, e1] at q
  exact q
theorem cE_part {a p : Nat} (h : C 10 a = nI p) (hp : p < 8) : cE Γ L 10 a (C 10 a) = .ref (L 5 p) := by
  show (if C 10 a = -1 then Value.null else .ref (L 5 (C 10 a).toNatClampNeg)) = _
  rw [h, if_neg, nI_clamp (by omega)]
  intro q
  exact absurd (show nI p < 0 by rw [q]; decide) (nI_pos (by omega))
theorem cE_nopart {a : Nat} (h : C 10 a = -1) : cE Γ L 10 a (C 10 a) = .null := if_pos h
theorem cE_stage {a k : Nat} (h : C 50 a = nI k) (hk : k < 3) : cE Γ L 50 a (C 50 a) = .ref (jm_eA Γ k) := by
  show Value.ref (jm_eA Γ (C 50 a).toNatClampNeg) = _
  rw [h, nI_clamp (by omega)]
theorem cE_53 {i b : Nat} (h : C 53 i = nI b) (hb : b < 8) : cE Γ L 53 i (C 53 i) = .ref (L 1 b) := by
  show Value.ref (L 1 (C 53 i).toNatClampNeg) = _
  rw [h, nI_clamp (by omega)]
theorem cE_11 {i b : Nat} (h : C 11 i = nI b) (hb : b < 8) : cE Γ L 11 i (C 11 i) = .ref (L 1 b) := by
  show Value.ref (L 1 (C 11 i).toNatClampNeg) = _
  rw [h, nI_clamp (by omega)]
theorem nI_m1 {n : Nat} (h : n < 2 ^ 31) : nI n ≠ -1 := fun q => absurd (show nI n < 0 by rw [q]; decide) (nI_pos h)
/-- a row that is there -/
abbrev RW (h : jm_H) (ρ : Nat → Nat) (q n : Nat) (f : Nat → Int32) : Prop := h.1 q = some (100, n) ∧ ρ q = 0 ∧ n ≤ 256 ∧ ∀ i, i < n → h.2 100 i q = .int (f i)
theorem TB.is {v : Value} {n : Nat} {w : Int32} {f : Nat → Int32} (hT : TB h ρ v w f) (hw : w = nI n) (hn : n ≤ 256) : ∃ q, v = .ref q ∧ RW h ρ q n f := by
  rcases hT with ⟨q1, -⟩ | ⟨q, n', q1, q2, q3, q4, q5, q6⟩
  · exact absurd (hw.symm.trans q1) (nI_m1 (by omega))
  · have : n' = n := (nI_eq (by omega) (by omega)).mp (q2.symm.trans hw)
    subst this
    exact ⟨q, q1, q4, q5, q3, q6⟩
theorem TB.no {v : Value} {w : Int32} {f : Nat → Int32} (hT : TB h ρ v w f) (hw : w = -1) : v = .null := by
  rcases hT with ⟨-, q1⟩ | ⟨q, n', q1, q2, q3, q4, q5, q6⟩
  · exact q1
  · exact absurd (q2.symm.trans hw) (nI_m1 (by omega))
theorem TB.of {q n : Nat} {f : Nat → Int32} (h1 : RW h ρ q n f) : TB h ρ (.ref q) (nI n) f := Or.inr ⟨q, n, rfl, rfl, h1.2.2.1, h1.1, h1.2.1, h1.2.2.2⟩
theorem cr_t57 (a : Nat) {idx : Nat} {fin : Bool} {ty : FieldType} (hd : decode μ.2.1 pc = .ok (.getfield idx, 3)) (hf9 : jm_FL μ.1.cls idx 1 14 fin ty) (hc : co Γ h x L ρ sz C) (hl : a < sz 1 0) (k : ∀ v, TB h ρ v (C 57 a) (fun i => C 58 (256 * a + i)) → jm_W Γ μ d rc rs Q (pc + 3) ls (v :: st) h) : jm_W Γ μ d rc rs Q pc ls (.ref (L 1 a) :: st) h :=
  jm_getf hd hf9 (n := 0) (hc.1 3 a hl).1 (k _ (hc.2.2.1 a hl).1)
theorem cr_t57G (a : Nat) {idx : Nat} {fin : Bool} {ty : FieldType} (hd : decode μ.2.1 pc = .ok (.getfield idx, 3)) (hf9 : jm_FG μ.1.cls idx 1 14 ty) (hc : co Γ h x L ρ sz C) (hl : a < sz 1 0) (k : ∀ v, TB h ρ v (C 57 a) (fun i => C 58 (256 * a + i)) → jm_W Γ μ d rc rs Q (pc + 3) ls (v :: st) h) : jm_W Γ μ d rc rs Q pc ls (.ref (L 1 a) :: st) h :=
  jm_getG hd hf9 (n := 0) (hc.1 3 a hl).1 (k _ (hc.2.2.1 a hl).1)
theorem cr_t59 (a : Nat) {idx : Nat} {fin : Bool} {ty : FieldType} (hd : decode μ.2.1 pc = .ok (.getfield idx, 3)) (hf9 : jm_FL μ.1.cls idx 1 16 fin ty) (hc : co Γ h x L ρ sz C) (hl : a < sz 1 0) (k : ∀ v, TB h ρ v (C 59 a) (fun i => C 66 (256 * a + i)) → jm_W Γ μ d rc rs Q (pc + 3) ls (v :: st) h) : jm_W Γ μ d rc rs Q pc ls (.ref (L 1 a) :: st) h :=
  jm_getf hd hf9 (n := 0) (hc.1 3 a hl).1 (k _ (hc.2.2.1 a hl).2)
theorem cr_t59G (a : Nat) {idx : Nat} {fin : Bool} {ty : FieldType} (hd : decode μ.2.1 pc = .ok (.getfield idx, 3)) (hf9 : jm_FG μ.1.cls idx 1 16 ty) (hc : co Γ h x L ρ sz C) (hl : a < sz 1 0) (k : ∀ v, TB h ρ v (C 59 a) (fun i => C 66 (256 * a + i)) → jm_W Γ μ d rc rs Q (pc + 3) ls (v :: st) h) : jm_W Γ μ d rc rs Q pc ls (.ref (L 1 a) :: st) h :=
  jm_getG hd hf9 (n := 0) (hc.1 3 a hl).1 (k _ (hc.2.2.1 a hl).2)
theorem cr_t55 (i : Nat) {idx : Nat} {fin : Bool} {ty : FieldType} (hd : decode μ.2.1 pc = .ok (.getfield idx, 3)) (hf9 : jm_FL μ.1.cls idx 3 2 fin ty) (hc : co Γ h x L ρ sz C) (hl : cV sz 53 i) (k : ∀ v, TB h ρ v (C 55 i) (fun q => C 56 (256 * i + q)) → jm_W Γ μ d rc rs Q (pc + 3) ls (v :: st) h) : jm_W Γ μ d rc rs Q pc ls (.ref (L 4 i) :: st) h :=
  jm_getf hd hf9 (n := 0) (hc.1 53 i hl).1 (k _ (hc.2.2.2.1 i hl))
theorem cr_t55G (i : Nat) {idx : Nat} {fin : Bool} {ty : FieldType} (hd : decode μ.2.1 pc = .ok (.getfield idx, 3)) (hf9 : jm_FG μ.1.cls idx 3 2 ty) (hc : co Γ h x L ρ sz C) (hl : cV sz 53 i) (k : ∀ v, TB h ρ v (C 55 i) (fun q => C 56 (256 * i + q)) → jm_W Γ μ d rc rs Q (pc + 3) ls (v :: st) h) : jm_W Γ μ d rc rs Q pc ls (.ref (L 4 i) :: st) h :=
  jm_getG hd hf9 (n := 0) (hc.1 53 i hl).1 (k _ (hc.2.2.2.1 i hl))
theorem cr_l0 {q : Nat} {a b c e w : Int32} {f : Nat → Int32} {idx : Nat} {fin : Bool} {ty : FieldType} (hd : decode μ.2.1 pc = .ok (.getfield idx, 3)) (hf9 : jm_FL μ.1.cls idx 5 0 fin ty) (hL : LET h ρ q a b c e w f) (k : jm_W Γ μ d rc rs Q (pc + 3) ls (.int a :: st) h) : jm_W Γ μ d rc rs Q pc ls (.ref q :: st) h :=
  jm_getf hd hf9 (n := 0) hL.1 (by rw [hL.2.2.1]; exact k)
theorem cr_l1 {q : Nat} {a b c e w : Int32} {f : Nat → Int32} {idx : Nat} {fin : Bool} {ty : FieldType} (hd : decode μ.2.1 pc = .ok (.getfield idx, 3)) (hf9 : jm_FL μ.1.cls idx 5 1 fin ty) (hL : LET h ρ q a b c e w f) (k : jm_W Γ μ d rc rs Q (pc + 3) ls (.int b :: st) h) : jm_W Γ μ d rc rs Q pc ls (.ref q :: st) h :=
  jm_getf hd hf9 (n := 0) hL.1 (by rw [hL.2.2.2.1]; exact k)
theorem cr_l2 {q : Nat} {a b c e w : Int32} {f : Nat → Int32} {idx : Nat} {fin : Bool} {ty : FieldType} (hd : decode μ.2.1 pc = .ok (.getfield idx, 3)) (hf9 : jm_FL μ.1.cls idx 5 2 fin ty) (hL : LET h ρ q a b c e w f) (k : jm_W Γ μ d rc rs Q (pc + 3) ls (.int c :: st) h) : jm_W Γ μ d rc rs Q pc ls (.ref q :: st) h :=
  jm_getf hd hf9 (n := 0) hL.1 (by rw [hL.2.2.2.2.1]; exact k)
theorem cr_l3 {q : Nat} {a b c e w : Int32} {f : Nat → Int32} {idx : Nat} {fin : Bool} {ty : FieldType} (hd : decode μ.2.1 pc = .ok (.getfield idx, 3)) (hf9 : jm_FL μ.1.cls idx 5 3 fin ty) (hL : LET h ρ q a b c e w f) (k : jm_W Γ μ d rc rs Q (pc + 3) ls (.int e :: st) h) : jm_W Γ μ d rc rs Q pc ls (.ref q :: st) h :=
  jm_getf hd hf9 (n := 0) hL.1 (by rw [hL.2.2.2.2.2.1]; exact k)
theorem cr_l4 {q : Nat} {a b c e w : Int32} {f : Nat → Int32} {idx : Nat} {fin : Bool} {ty : FieldType} (hd : decode μ.2.1 pc = .ok (.getfield idx, 3)) (hf9 : jm_FL μ.1.cls idx 5 4 fin ty) (hL : LET h ρ q a b c e w f) (k : ∀ v, TB h ρ v w f → jm_W Γ μ d rc rs Q (pc + 3) ls (v :: st) h) : jm_W Γ μ d rc rs Q pc ls (.ref q :: st) h :=
  jm_getf hd hf9 (n := 0) hL.1 (k _ hL.2.2.2.2.2.2)
theorem cr_l0G {q : Nat} {a b c e w : Int32} {f : Nat → Int32} {idx : Nat} {fin : Bool} {ty : FieldType} (hd : decode μ.2.1 pc = .ok (.getfield idx, 3)) (hf9 : jm_FG μ.1.cls idx 5 0 ty) (hL : LET h ρ q a b c e w f) (k : jm_W Γ μ d rc rs Q (pc + 3) ls (.int a :: st) h) : jm_W Γ μ d rc rs Q pc ls (.ref q :: st) h :=
  jm_getG hd hf9 (n := 0) hL.1 (by rw [hL.2.2.1]; exact k)
theorem cr_l1G {q : Nat} {a b c e w : Int32} {f : Nat → Int32} {idx : Nat} {fin : Bool} {ty : FieldType} (hd : decode μ.2.1 pc = .ok (.getfield idx, 3)) (hf9 : jm_FG μ.1.cls idx 5 1 ty) (hL : LET h ρ q a b c e w f) (k : jm_W Γ μ d rc rs Q (pc + 3) ls (.int b :: st) h) : jm_W Γ μ d rc rs Q pc ls (.ref q :: st) h :=
  jm_getG hd hf9 (n := 0) hL.1 (by rw [hL.2.2.2.1]; exact k)
theorem cr_l2G {q : Nat} {a b c e w : Int32} {f : Nat → Int32} {idx : Nat} {fin : Bool} {ty : FieldType} (hd : decode μ.2.1 pc = .ok (.getfield idx, 3)) (hf9 : jm_FG μ.1.cls idx 5 2 ty) (hL : LET h ρ q a b c e w f) (k : jm_W Γ μ d rc rs Q (pc + 3) ls (.int c :: st) h) : jm_W Γ μ d rc rs Q pc ls (.ref q :: st) h :=
  jm_getG hd hf9 (n := 0) hL.1 (by rw [hL.2.2.2.2.1]; exact k)
theorem cr_l3G {q : Nat} {a b c e w : Int32} {f : Nat → Int32} {idx : Nat} {fin : Bool} {ty : FieldType} (hd : decode μ.2.1 pc = .ok (.getfield idx, 3)) (hf9 : jm_FG μ.1.cls idx 5 3 ty) (hL : LET h ρ q a b c e w f) (k : jm_W Γ μ d rc rs Q (pc + 3) ls (.int e :: st) h) : jm_W Γ μ d rc rs Q pc ls (.ref q :: st) h :=
  jm_getG hd hf9 (n := 0) hL.1 (by rw [hL.2.2.2.2.2.1]; exact k)
theorem cr_l4G {q : Nat} {a b c e w : Int32} {f : Nat → Int32} {idx : Nat} {fin : Bool} {ty : FieldType} (hd : decode μ.2.1 pc = .ok (.getfield idx, 3)) (hf9 : jm_FG μ.1.cls idx 5 4 ty) (hL : LET h ρ q a b c e w f) (k : ∀ v, TB h ρ v w f → jm_W Γ μ d rc rs Q (pc + 3) ls (v :: st) h) : jm_W Γ μ d rc rs Q pc ls (.ref q :: st) h :=
  jm_getG hd hf9 (n := 0) hL.1 (k _ hL.2.2.2.2.2.2)
theorem cr_rld {q n e : Nat} {f : Nat → Int32} {ix : Int32} (hd : decode μ.2.1 pc = .ok (.iaload, 1)) (hr : RW h ρ q n f) (hix : ix = nI e) (hn : e < n) (kk : jm_W Γ μ d rc rs Q (pc + 1) ls (.int (f e) :: st) h) : jm_W Γ μ d rc rs Q pc ls (.int ix :: .ref q :: st) h := by
  obtain ⟨q1, q2, q3, q4⟩ := hr
  subst hix
  refine jm_iaload hd q1 (vp_in_nI hn (by omega)) ?_
  rw [nI_clamp (by omega), q4 e hn]
  exact kk
theorem cr_rlen {q n : Nat} {f : Nat → Int32} (hd : decode μ.2.1 pc = .ok (.arraylength, 1)) (hr : RW h ρ q n f) (kk : jm_W Γ μ d rc rs Q (pc + 1) ls (.int (nI n) :: st) h) : jm_W Γ μ d rc rs Q pc ls (.ref q :: st) h := jm_alen 0 hd (by decide) hr.1 kk
end
