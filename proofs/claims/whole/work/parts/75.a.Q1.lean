/-! SIMULATION Q1. Laid by wip/whole/gen/p71.py -/
/-! class and reference side by side -/
/-- the k-th child of a as the class has it -/
abbrev chd (S : mS) (a k : Nat) : Int32 := if k < N S 21 a then S 20 (8 * a + k) else S 19 a
abbrev chn (S : mS) (a : Nat) : Nat := N S 21 a + (if S 19 a = -1 then 0 else 1)
abbrev stg (S : mS) (a : Nat) : Int32 := if S 13 a = 0 then 0 else if S 14 a = 0 then 1 else 2
def mA1 (S C : mS) (n np nl : Nat) (sz : Nat → Nat → Nat) : Prop := C 1 0 = nI n ∧ C 5 0 = nI np ∧ C 34 0 = nI nl ∧ C 60 0 = (if S 2 0 = 0 then 1 else 0) ∧ C 27 0 = S 27 0 ∧ sz 1 0 = n ∧ sz 6 0 = np ∧ sz 8 0 = nl
def mG (S C : mS) (n : Nat) : Prop := ∀ a, a < n → C 3 a = S 3 a ∧ C 9 a = S 9 a ∧ C 10 a = S 10 a ∧ C 15 a = S 15 a ∧ C 16 a = S 16 a ∧ C 17 a = S 17 a ∧ C 18 a = S 18 a ∧ C 22 a = S 22 a ∧ C 23 a = S 23 a ∧ C 28 a = S 28 a
def mE (S C : mS) (n hx : Nat) : Prop := ∀ a, a < n → (a ≠ hx → C 50 a = stg S a) ∧ (S 19 a ≠ -1 → C 51 a = S 19 a)
def mC (S C : mS) (n : Nat) (sz : Nat → Nat → Nat) : Prop := ∀ a, a < n → C 52 a = nI (chn S a) ∧ sz 4 a = chn S a ∧ ∀ k, k < chn S a → C 53 (8 * a + k) = chd S a k ∧ C 54 (8 * a + k) = S 23 (8 + (chd S a k).toNatClampNeg) ∧
  C 55 (8 * a + k) = (if S 23 (8 + (chd S a k).toNatClampNeg) = 0 then -1 else S 25 (8 + (chd S a k).toNatClampNeg)) ∧ (S 23 (8 + (chd S a k).toNatClampNeg) ≠ 0 → ∀ q, q < N S 25 (8 + (chd S a k).toNatClampNeg) → C 56 (256 * (8 * a + k) + q) = un (S 26 (256 * (8 + (chd S a k).toNatClampNeg) + q)))
def mT (S C : mS) (n : Nat) : Prop := ∀ a, a < n → C 57 a = (if S 23 a = 0 then -1 else S 25 a) ∧ (S 23 a ≠ 0 → ∀ i, i < N S 25 a → C 58 (256 * a + i) = un (S 26 (256 * a + i)))
def mK (S C : mS) (n : Nat) : Prop := ∀ a, a < n → C 59 a = (if S 28 a = 0 then -1 else 8) ∧ (S 28 a ≠ 0 → ∀ b, b < 8 → C 66 (256 * a + b) = S 31 (8 * a + b))
def mO (S C : mS) (n : Nat) : Prop := ∀ i, i < 4 * n → C 4 i = un (S 4 i)
def mP (S C : mS) (np : Nat) : Prop := ∀ p, p < np → ∀ f g, f < 8 → g < 8 → S 6 p = nI f → S 7 p = nI g → C 62 p = nI (if f ≤ g then f else g) ∧ C 63 p = nI (if f ≤ g then g else f) ∧ ∀ v w, v < 4 → w < 4 → C 64 (16 * p + (4 * v + w)) = un (S 8 (16 * p + (if f ≤ g then 4 * v + w else 4 * w + v)))
def mQ (S C : mS) (n : Nat) (sz : Nat → Nat → Nat) : Prop := (∀ a q, a < n → q < 8 → S 10 a = nI q → sz 5 q = 1) ∧ ∀ q, q < 8 → sz 5 q = 1 → C 11 q = S 11 q ∧ C 12 q = S 12 q ∧ C 65 q = S 29 (N S 11 q)
def mL1 (S C : mS) (k : Nat) : Prop := C 35 k = S 35 k ∧ C 36 k = S 36 k ∧ C 37 k = S 37 k ∧ C 38 k = S 38 k ∧ C 67 k = (if S 35 k = 2 then S 39 k else if S 35 k = 3 then 8 else -1) ∧ (S 35 k = 2 → ∀ i, i < N S 39 k → C 68 (256 * k + i) = un (S 41 (256 * k + i))) ∧ (S 35 k = 3 → ∀ i, i < 8 → C 68 (256 * k + i) = S 41 (256 * k + i))
def mL (S C : mS) (nl : Nat) : Prop := ∀ k, k < nl → mL1 S C k
def SIM (S C : mS) (n np nl : Nat) (sz : Nat → Nat → Nat) (hx : Nat) : Prop := mA1 S C n np nl sz ∧ mG S C n ∧ mE S C n hx ∧ mC S C n sz ∧ mT S C n ∧ mK S C n ∧ mO S C n ∧ mP S C np ∧ mQ S C n sz ∧ mL S C nl
