/-! SIMULATION V1. Laid by wip/whole/gen/p71.py -/
/-! the reference's state read as relations -/
def vsp (S : mS) : Rl := fun x y => S 10 x = S 10 y
def vrt (S : mS) (n : Nat) : Nat → Prop := fun a => a < n ∧ S 11 (N S 10 a) = nI a
def vnb (S : mS) (n : Nat) : Rl := fun a b => a < n ∧ b < 8 ∧ cI (S 9 a) (nI b)
def vms (S : mS) (n : Nat) : Rl := fun a b => a < n ∧ b < 8 ∧ cI (S 18 a) (nI b)
def vch (S : mS) (n : Nat) : Rl := fun a c => a < n ∧ c < 8 ∧ ∃ k, k < N S 21 a ∧ S 20 (8 * a + k) = nI c
def vwt (S : mS) (n : Nat) : Rl := fun a b => a < n ∧ b < 8 ∧ S 19 a = nI b
def vpa (S : mS) (n : Nat) : Rl := fun b a => b < n ∧ a < 8 ∧ S 16 b = nI a
def vhd (S : mS) (n : Nat) : Nat → Prop := fun a => a < n ∧ S 13 a ≠ 0
def vth (S : mS) (n : Nat) : Nat → Prop := fun a => a < n ∧ S 14 a ≠ 0
def van (S : mS) (n : Nat) : Rl := fun a b => a < n ∧ b < 8 ∧ cI (S 17 a) (nI b)
def vse (S : mS) (n : Nat) : Rl := fun a b => a < n ∧ b < 8 ∧ cI (S 22 a) (nI b)
def vR (S : mS) : Nat → Nat := fun a => N S 12 (N S 10 a)
def vtr (S : mS) (n : Nat) : Nat → Nat := fun a => if a < n then N S 23 a else 0
def vtq (S : mS) (n : Nat) : Nat → Nat := fun a => if a < n then N S 23 (8 + a) else 0
def vst (S : mS) (n : Nat) : Nat → Nat := fun a => if a < n then N S 28 a else 0
def vnr (S : mS) (n : Nat) : Nat → Nat := fun a => if a < n then N S 29 a else 0
abbrev vDI (S : mS) (n : Nat) (A : Rl) (hh : Nat → Prop) : Prop := DI n (vsp S) (vrt S n) (vnb S n) (vms S n) A (vch S n) (vwt S n) (vpa S n) (vhd S n) (vth S n) hh (van S n) (vse S n)
abbrev vRI (S : mS) (n : Nat) (A : Rl) : Prop := RI n (vsp S) (vrt S n) A (vch S n) (vpa S n) (vhd S n) (vth S n) (vR S) (vtr S n) (vtq S n) (vst S n) (vnr S n)
/-- how many are in a's mask -/
abbrev pm (S : mS) (a : Nat) : Nat := pcN (S 18 a) 8
abbrev csm (S : mS) (dd : Nat → Nat) (a : Nat) : Nat := sumB (fun k => pm S (N S 20 (8 * a + k)) - dd (N S 20 (8 * a + k))) (N S 21 a)
def NI (S : mS) (n : Nat) (dd : Nat → Nat) : Prop := (∀ a, vhd S n a → dd a + 1 + csm S dd a ≤ pm S a) ∧ ∀ a b, vwt S n a b → vhd S n b → dd b = pm S a
/-- the entries of a's table -/
abbrev wd (S : mS) (a : Nat) : Nat := unN S (S 22 a) 8
abbrev bnd (S : mS) (dd : Nat → Nat) (a : Nat) : Nat := 12987 * (pm S a - dd a)
def TI (S : mS) (n np : Nat) (dd : Nat → Nat) : Prop :=
  (∀ a, 0 < vtr S n a → S 24 a = S 22 a ∧ S 25 a = nI (wd S a) ∧ wd S a ≤ 256 ∧ ∀ i, i < wd S a → S 26 (256 * a + i) = nI (tabN S a np (N S 21 a) (N S 3 a) i) ∧ (N S 26 (256 * a + i) < 1048576 → N S 26 (256 * a + i) ≤ bnd S dd a)) ∧
  ∀ b, 0 < vtq S n b → S 24 (8 + b) = S 22 b ∧ S 25 (8 + b) = nI (wd S b) ∧ (∀ i, i < wd S b → N S 26 (256 * (8 + b) + i) < 1048576 → N S 26 (256 * (8 + b) + i) ≤ bnd S dd b) ∧ (vtq S n b = vtr S n b → ∀ i, i < wd S b → S 26 (256 * (8 + b) + i) = S 26 (256 * b + i))
/-- a row of values told -/
def rowK (S : mS) (n : Nat) (e : Nat → Int32) : Prop := ∀ x, x < 8 → e x = -1 ∨ (x < n ∧ ∃ v, v < N S 3 x ∧ e x = nI v)
abbrev kv (S : mS) (a : Nat) : Nat → Nat := fun b => N S 31 (8 * a + b)
def KI (S : mS) (n np : Nat) (A : Rl) : Prop := ∀ a, a < n → rowK S n (fun x => S 31 (8 * a + x)) ∧ (vst S n a = 0 → ∀ x, x < 8 → S 31 (8 * a + x) = -1) ∧
  (0 < vst S n a → S 30 a = S 31 (8 * a + a) ∧ ∀ x, x < 8 → A x a ∨ x = a → S 31 (8 * a + x) ≠ -1) ∧ ((∀ p, ¬ vpa S n a p) → ∀ x, x < 8 → x ≠ a → S 31 (8 * a + x) = -1) ∧
  (vst S n a = vR S a → costN S (kv S a) a np (N S 21 a) < 1048576)
/-- a letter that may be under way -/
def LV (S : mS) (n : Nat) (w a b m my mk : Int32) (e : Nat → Int32) : Prop := ∃ f t, f < n ∧ t < n ∧ a = nI f ∧ b = nI t ∧
  ((w = 0 ∧ my = 0 ∧ (¬ vhd S n t → vwt S n f t ∧ m = S 18 f)) ∨ (w = 1 ∧ my = 0 ∧ vth S n f ∧ vpa S n f t ∧ m = S 18 f) ∨
   (w = 2 ∧ vth S n f ∧ vpa S n f t ∧ mk = S 22 f ∧ my = nI (wd S f) ∧ wd S f ≤ 256 ∧ (∀ i, i < wd S f → e i = nI (e i).toNatClampNeg ∧ (e i).toNatClampNeg ≤ 1048576) ∧ ∃ r, 1 ≤ r ∧ r < 2 ^ 31 ∧ m = nI r ∧
      (r ≤ vtq S n f ∨ (r = vtr S n f ∧ vtr S n f = vR S f ∧ ∀ i, i < wd S f → e i = S 26 (256 * f + i)))) ∨
   (w = 3 ∧ vpa S n t f ∧ rowK S n e ∧ my = nI (ccR e 8) ∧ ∃ r, 1 ≤ r ∧ r < 2 ^ 31 ∧ m = nI r ∧ (r ≤ vst S n t ∨ (r = vR S t ∧ vst S n f = vR S t ∧ ∀ x, x < 8 → e x = S 31 (8 * f + x)))))
abbrev LVk (S : mS) (n k : Nat) : Prop := LV S n (S 35 k) (S 36 k) (S 37 k) (S 38 k) (S 39 k) (S 40 k) (fun i => S 41 (256 * k + i))
/-- numbers and ranges -/
def BI (S : mS) (n np nl T : Nat) : Prop :=
  (S 1 0 = nI n ∧ n ≤ 8 ∧ S 5 0 = nI np ∧ np ≤ 12 ∧ S 34 0 = nI nl ∧ nl ≤ 20 ∧ (S 2 0 = 0 ∨ S 2 0 = 1)) ∧ (∀ a, a < 8 → nn S 3 a 4) ∧ (∀ a, a < n → 2 ≤ N S 3 a) ∧
  (∀ p, p < np → ∃ f g, f < n ∧ g < n ∧ S 6 p = nI f ∧ S 7 p = nI g ∧ vnb S n f g) ∧
  (∀ i, i < 32 → nn S 4 i 1048576 ∧ (N S 4 i < 1048576 → N S 4 i ≤ 999)) ∧ (∀ i, i < 192 → nn S 8 i 1048576 ∧ (N S 8 i < 1048576 → N S 8 i ≤ 999)) ∧ (∀ i, i < 4096 → nn S 26 i 1048576) ∧
  (∀ a, a < 8 → ∃ m, m < 256 ∧ S 9 a = nI m) ∧ (∀ x y, vnb S n x y → vnb S n y x ∧ x ≠ y ∧ y < n) ∧
  (∀ a, a < 8 → (S 13 a = 0 ∨ S 13 a = 1) ∧ (S 14 a = 0 ∨ S 14 a = 1) ∧ (S 15 a = 0 ∨ S 15 a = 1) ∧ (S 16 a = -1 ∨ ∃ b, b < n ∧ S 16 a = nI b) ∧ (S 19 a = -1 ∨ ∃ b, b < n ∧ S 19 a = nI b) ∧ nn S 21 a 7 ∧ nn S 12 a T ∧ nn S 28 a T ∧ nn S 29 a T ∧ nn S 23 a T ∧ nn S 23 (8 + a) T) ∧
  (∀ a k, a < n → k < N S 21 a → ∃ c, c < n ∧ S 20 (8 * a + k) = nI c) ∧ T < 2 ^ 30
/-- the parts -/
def PI (S : mS) (n : Nat) : Prop := (∀ a, a < n → ∃ q r, q < n ∧ r < n ∧ S 10 a = nI q ∧ S 11 q = nI r ∧ S 10 r = nI q) ∧ (∀ a, n ≤ a → a < 8 → S 10 a = -1) ∧
  (∀ r, vrt S n r → ∀ (T : Nat → Prop), T r → (∀ x y, T x → vnb S n x y → T y) → ∀ a, a < n → vsp S a r → T a)
/-- after start -/
def IS (S : mS) (n np : Nat) (A : Rl) (dd : Nat → Nat) (hh : Nat → Prop) : Prop := vDI S n A hh ∧ vRI S n A ∧ NI S n dd ∧ TI S n np dd ∧ KI S n np A ∧ PI S n
/-- a's children are different -/
def CD (S : mS) (n : Nat) : Prop := ∀ a k k', a < n → k < k' → k' < N S 21 a → S 20 (8 * a + k) ≠ S 20 (8 * a + k')
def Z5 (S : mS) (n : Nat) (sz : Nat → Nat → Nat) : Prop := ∀ q, q < 8 → sz 5 q = 1 → ∃ a, a < n ∧ S 10 a = nI q
