/-! THE CLASS as a state of numbers: C r i, by rows; where each lies, and what. Written by wip/whole/gen/p50.py -/
section
def cT (r : Nat) : Nat := match r with
  | 1 => 0
  | 3 => 1
  | 4 => 100
  | 5 => 0
  | 9 => 1
  | 10 => 1
  | 11 => 2
  | 12 => 2
  | 15 => 1
  | 16 => 1
  | 17 => 1
  | 18 => 1
  | 22 => 1
  | 23 => 1
  | 27 => 0
  | 28 => 1
  | 32 => 100
  | 34 => 0
  | 50 => 1
  | 51 => 1
  | 52 => 1
  | 53 => 3
  | 54 => 3
  | 60 => 0
  | 62 => 4
  | 63 => 4
  | 64 => 100
  | 65 => 2
  | 70 => 100
  | 71 => 1
  | 72 => 1
  | 73 => 1
  | 74 => 100
  | 75 => 100
  | 76 => 4
  | 77 => 100
  | 78 => 0
  | 79 => 0
  | 80 => 0
  | 81 => 0
  | _ => 0
def cK (r : Nat) : Nat × Nat := match r with
  | 1 => (0, 0)
  | 3 => (1, 0)
  | 4 => (100, 4)
  | 5 => (0, 0)
  | 9 => (1, 0)
  | 10 => (1, 0)
  | 11 => (2, 0)
  | 12 => (2, 0)
  | 15 => (1, 0)
  | 16 => (1, 0)
  | 17 => (1, 0)
  | 18 => (1, 0)
  | 22 => (1, 0)
  | 23 => (1, 0)
  | 27 => (0, 0)
  | 28 => (1, 0)
  | 32 => (100, 8)
  | 34 => (0, 0)
  | 50 => (1, 0)
  | 51 => (1, 0)
  | 52 => (1, 0)
  | 53 => (3, 0)
  | 54 => (3, 0)
  | 60 => (0, 0)
  | 62 => (4, 0)
  | 63 => (4, 0)
  | 64 => (100, 16)
  | 65 => (2, 0)
  | 70 => (103, 8)
  | 71 => (1, 0)
  | 72 => (1, 0)
  | 73 => (1, 0)
  | 74 => (106, 7)
  | 75 => (104, 12)
  | 76 => (4, 0)
  | 77 => (105, 20)
  | 78 => (0, 0)
  | 79 => (0, 0)
  | 80 => (0, 0)
  | 81 => (0, 0)
  | _ => (0, 0)
def cJ (r i : Nat) : Nat := match r with
  | 1 => 1
  | 3 => 1
  | 4 => i % 4
  | 5 => 3
  | 9 => 5
  | 10 => 6
  | 11 => 0
  | 12 => 1
  | 15 => 13
  | 16 => 10
  | 17 => 9
  | 18 => 8
  | 22 => 12
  | 23 => 15
  | 27 => 8
  | 28 => 17
  | 32 => i
  | 34 => 5
  | 50 => 7
  | 51 => 11
  | 52 => 4
  | 53 => 0
  | 54 => 1
  | 60 => 7
  | 62 => 0
  | 63 => 1
  | 64 => i % 16
  | 65 => 2
  | 70 => i
  | 71 => 0
  | 72 => 2
  | 73 => 3
  | 74 => i % 8
  | 75 => i
  | 76 => 2
  | 77 => i
  | 78 => 0
  | 79 => 2
  | 80 => 4
  | 81 => 6
  | _ => 0
def cR (r i : Nat) : Nat := match r with
  | 1 => 1
  | 3 => 10 + i
  | 4 => 20 + i / 4
  | 5 => 1
  | 9 => 10 + i
  | 10 => 10 + i
  | 11 => 40 + i
  | 12 => 40 + i
  | 15 => 10 + i
  | 16 => 10 + i
  | 17 => 10 + i
  | 18 => 10 + i
  | 22 => 10 + i
  | 23 => 10 + i
  | 27 => 1
  | 28 => 10 + i
  | 32 => 5
  | 34 => 1
  | 50 => 10 + i
  | 51 => 10 + i
  | 52 => 10 + i
  | 53 => 100 + i
  | 54 => 100 + i
  | 60 => 1
  | 62 => 50 + i
  | 63 => 50 + i
  | 64 => 70 + i / 16
  | 65 => 40 + i
  | 70 => 2
  | 71 => 10 + i
  | 72 => 10 + i
  | 73 => 10 + i
  | 74 => 30 + i / 8
  | 75 => 3
  | 76 => 50 + i
  | 77 => 4
  | 78 => 1
  | 79 => 1
  | 80 => 1
  | 81 => 1
  | _ => 0
def cA (x : Nat) (L : Nat → Nat → Nat) (r i : Nat) : Nat := match r with
  | 1 => x
  | 3 => L 1 i
  | 4 => L 2 (i / 4)
  | 5 => x
  | 9 => L 1 i
  | 10 => L 1 i
  | 11 => L 5 i
  | 12 => L 5 i
  | 15 => L 1 i
  | 16 => L 1 i
  | 17 => L 1 i
  | 18 => L 1 i
  | 22 => L 1 i
  | 23 => L 1 i
  | 27 => x
  | 28 => L 1 i
  | 32 => L 0 3
  | 34 => x
  | 50 => L 1 i
  | 51 => L 1 i
  | 52 => L 1 i
  | 53 => L 4 i
  | 54 => L 4 i
  | 60 => x
  | 62 => L 6 i
  | 63 => L 6 i
  | 64 => L 7 (i / 16)
  | 65 => L 5 i
  | 70 => L 0 0
  | 71 => L 1 i
  | 72 => L 1 i
  | 73 => L 1 i
  | 74 => L 3 (i / 8)
  | 75 => L 0 1
  | 76 => L 6 i
  | 77 => L 0 2
  | 78 => x
  | 79 => x
  | 80 => x
  | 81 => x
  | _ => 0
def cV (sz : Nat → Nat → Nat) (r i : Nat) : Prop := match r with
  | 1 => i = 0
  | 3 => i < sz 1 0
  | 4 => i < 4 * sz 1 0
  | 5 => i = 0
  | 9 => i < sz 1 0
  | 10 => i < sz 1 0
  | 11 => i < 8 ∧ sz 5 i = 1
  | 12 => i < 8 ∧ sz 5 i = 1
  | 15 => i < sz 1 0
  | 16 => i < sz 1 0
  | 17 => i < sz 1 0
  | 18 => i < sz 1 0
  | 22 => i < sz 1 0
  | 23 => i < sz 1 0
  | 27 => i = 0
  | 28 => i < sz 1 0
  | 32 => i < 8
  | 34 => i = 0
  | 50 => i < sz 1 0
  | 51 => i < sz 1 0
  | 52 => i < sz 1 0
  | 53 => i / 8 < sz 1 0 ∧ i % 8 < sz 4 (i / 8)
  | 54 => i / 8 < sz 1 0 ∧ i % 8 < sz 4 (i / 8)
  | 60 => i = 0
  | 62 => i < sz 6 0
  | 63 => i < sz 6 0
  | 64 => i < 16 * sz 6 0
  | 65 => i < 8 ∧ sz 5 i = 1
  | 70 => i < sz 1 0
  | 71 => i < sz 1 0
  | 72 => i < sz 1 0
  | 73 => i < sz 1 0
  | 74 => i / 8 < sz 1 0 ∧ i % 8 < sz 4 (i / 8)
  | 75 => i < sz 6 0
  | 76 => i < sz 6 0
  | 77 => i < sz 8 0
  | 78 => i = 0
  | 79 => i = 0
  | 80 => i = 0
  | 81 => i = 0
  | _ => False
def cE (Γ : jm_G) (L : Nat → Nat → Nat) (r i : Nat) (v : Int32) : Value := match r with
  | 1 => .int v
  | 3 => .int v
  | 4 => .int v
  | 5 => .int v
  | 9 => .int v
  | 10 => if v = -1 then .null else .ref (L 5 v.toNatClampNeg)
  | 11 => .ref (L 1 v.toNatClampNeg)
  | 12 => .int v
  | 15 => .int v
  | 16 => .int v
  | 17 => .int v
  | 18 => .int v
  | 22 => .int v
  | 23 => .int v
  | 27 => .int v
  | 28 => .int v
  | 32 => .int v
  | 34 => .int v
  | 50 => .ref (jm_eA Γ v.toNatClampNeg)
  | 51 => .int v
  | 52 => .int v
  | 53 => .ref (L 1 v.toNatClampNeg)
  | 54 => .int v
  | 60 => .int v
  | 62 => .int v
  | 63 => .int v
  | 64 => .int v
  | 65 => .int v
  | 70 => .ref (L 1 i)
  | 71 => .int (nI i)
  | 72 => .ref (L 2 i)
  | 73 => .ref (L 3 i)
  | 74 => .ref (L 4 i)
  | 75 => .ref (L 6 i)
  | 76 => .ref (L 7 i)
  | 77 => .ref (L 8 i)
  | 78 => .ref (L 0 0)
  | 79 => .ref (L 0 1)
  | 80 => .ref (L 0 2)
  | 81 => .ref (L 0 3)
  | _ => .int v
def cdX (j : Nat) : Nat := match j with
  | 0 => 78
  | 1 => 1
  | 2 => 79
  | 3 => 5
  | 4 => 80
  | 5 => 34
  | 6 => 81
  | 7 => 60
  | 8 => 27
  | _ => 0
def cdA (j : Nat) : Nat := match j with
  | 0 => 71
  | 1 => 3
  | 2 => 72
  | 3 => 73
  | 4 => 52
  | 5 => 9
  | 6 => 10
  | 7 => 50
  | 8 => 18
  | 9 => 17
  | 10 => 16
  | 11 => 51
  | 12 => 22
  | 13 => 15
  | 15 => 23
  | 17 => 28
  | _ => 0
def cdC (j : Nat) : Nat := match j with
  | 0 => 53
  | 1 => 54
  | _ => 0
def cdP (j : Nat) : Nat := match j with
  | 0 => 11
  | 1 => 12
  | 2 => 65
  | _ => 0
def cdQ (j : Nat) : Nat := match j with
  | 0 => 62
  | 1 => 63
  | 2 => 76
  | _ => 0
def cdec (q j : Nat) : Nat × Nat :=
  if q = 1 then (cdX j, 0) else if q = 5 then (32, j) else if q = 2 then (70, j) else if q = 3 then (75, j) else if q = 4 then (77, j) else if q < 20 then (cdA j, q - 10) else if q < 30 then (4, 4 * (q - 20) + j)
  else if q < 40 then (74, 8 * (q - 30) + j) else if q < 50 then (cdP j, q - 40) else if q < 70 then (cdQ j, q - 50) else if q < 100 then (64, 16 * (q - 70) + j) else (cdC j, q - 100)
abbrev cB (sz : Nat → Nat → Nat) : Prop := sz 1 0 ≤ 8 ∧ sz 6 0 ≤ 12 ∧ sz 8 0 ≤ 20 ∧ ∀ a, sz 4 a ≤ 7
theorem cdec_key {sz : Nat → Nat → Nat} (hB : cB sz) {r i : Nat} (h : cV sz r i) : cdec (cR r i) (cJ r i) = (r, i) := by
  obtain ⟨b1, b6, b8, b4⟩ := hB

  unfold cV at h
  split at h
  · subst h; rfl
  · have := b4 (i / 8)
    show cdec (10 + i) (1) = (3, i)
    unfold cdec
    rw [if_neg (show ¬ (10 + i = 1) by omega), if_neg (show ¬ (10 + i = 5) by omega), if_neg (show ¬ (10 + i = 2) by omega), if_neg (show ¬ (10 + i = 3) by omega), if_neg (show ¬ (10 + i = 4) by omega), if_pos (show 10 + i < 20 by omega)]
    refine Prod.ext ?_ ?_
    · rfl
    · show _ = i
      omega
  · have := b4 (i / 8)
    show cdec (20 + i / 4) (i % 4) = (4, i)
    unfold cdec
    rw [if_neg (show ¬ (20 + i / 4 = 1) by omega), if_neg (show ¬ (20 + i / 4 = 5) by omega), if_neg (show ¬ (20 + i / 4 = 2) by omega), if_neg (show ¬ (20 + i / 4 = 3) by omega), if_neg (show ¬ (20 + i / 4 = 4) by omega), if_neg (show ¬ (20 + i / 4 < 20) by omega), if_pos (show 20 + i / 4 < 30 by omega)]
    refine Prod.ext ?_ ?_
    · rfl
    · show _ = i
      omega
  · subst h; rfl
  · have := b4 (i / 8)
    show cdec (10 + i) (5) = (9, i)
    unfold cdec
    rw [if_neg (show ¬ (10 + i = 1) by omega), if_neg (show ¬ (10 + i = 5) by omega), if_neg (show ¬ (10 + i = 2) by omega), if_neg (show ¬ (10 + i = 3) by omega), if_neg (show ¬ (10 + i = 4) by omega), if_pos (show 10 + i < 20 by omega)]
    refine Prod.ext ?_ ?_
    · rfl
    · show _ = i
      omega
  · have := b4 (i / 8)
    show cdec (10 + i) (6) = (10, i)
    unfold cdec
    rw [if_neg (show ¬ (10 + i = 1) by omega), if_neg (show ¬ (10 + i = 5) by omega), if_neg (show ¬ (10 + i = 2) by omega), if_neg (show ¬ (10 + i = 3) by omega), if_neg (show ¬ (10 + i = 4) by omega), if_pos (show 10 + i < 20 by omega)]
    refine Prod.ext ?_ ?_
    · rfl
    · show _ = i
      omega
  · have := b4 (i / 8)
    show cdec (40 + i) (0) = (11, i)
    unfold cdec
    rw [if_neg (show ¬ (40 + i = 1) by omega), if_neg (show ¬ (40 + i = 5) by omega), if_neg (show ¬ (40 + i = 2) by omega), if_neg (show ¬ (40 + i = 3) by omega), if_neg (show ¬ (40 + i = 4) by omega), if_neg (show ¬ (40 + i < 20) by omega), if_neg (show ¬ (40 + i < 30) by omega), if_neg (show ¬ (40 + i < 40) by omega), if_pos (show 40 + i < 50 by omega)]
    refine Prod.ext ?_ ?_
    · rfl
    · show _ = i
      omega
  · have := b4 (i / 8)
    show cdec (40 + i) (1) = (12, i)
    unfold cdec
    rw [if_neg (show ¬ (40 + i = 1) by omega), if_neg (show ¬ (40 + i = 5) by omega), if_neg (show ¬ (40 + i = 2) by omega), if_neg (show ¬ (40 + i = 3) by omega), if_neg (show ¬ (40 + i = 4) by omega), if_neg (show ¬ (40 + i < 20) by omega), if_neg (show ¬ (40 + i < 30) by omega), if_neg (show ¬ (40 + i < 40) by omega), if_pos (show 40 + i < 50 by omega)]
    refine Prod.ext ?_ ?_
    · rfl
    · show _ = i
      omega
  · have := b4 (i / 8)
    show cdec (10 + i) (13) = (15, i)
    unfold cdec
    rw [if_neg (show ¬ (10 + i = 1) by omega), if_neg (show ¬ (10 + i = 5) by omega), if_neg (show ¬ (10 + i = 2) by omega), if_neg (show ¬ (10 + i = 3) by omega), if_neg (show ¬ (10 + i = 4) by omega), if_pos (show 10 + i < 20 by omega)]
    refine Prod.ext ?_ ?_
    · rfl
    · show _ = i
      omega
  · have := b4 (i / 8)
    show cdec (10 + i) (10) = (16, i)
    unfold cdec
    rw [if_neg (show ¬ (10 + i = 1) by omega), if_neg (show ¬ (10 + i = 5) by omega), if_neg (show ¬ (10 + i = 2) by omega), if_neg (show ¬ (10 + i = 3) by omega), if_neg (show ¬ (10 + i = 4) by omega), if_pos (show 10 + i < 20 by omega)]
    refine Prod.ext ?_ ?_
    · rfl
    · show _ = i
      omega
  · have := b4 (i / 8)
    show cdec (10 + i) (9) = (17, i)
    unfold cdec
    rw [if_neg (show ¬ (10 + i = 1) by omega), if_neg (show ¬ (10 + i = 5) by omega), if_neg (show ¬ (10 + i = 2) by omega), if_neg (show ¬ (10 + i = 3) by omega), if_neg (show ¬ (10 + i = 4) by omega), if_pos (show 10 + i < 20 by omega)]
    refine Prod.ext ?_ ?_
    · rfl
    · show _ = i
      omega
  · have := b4 (i / 8)
    show cdec (10 + i) (8) = (18, i)
    unfold cdec
    rw [if_neg (show ¬ (10 + i = 1) by omega), if_neg (show ¬ (10 + i = 5) by omega), if_neg (show ¬ (10 + i = 2) by omega), if_neg (show ¬ (10 + i = 3) by omega), if_neg (show ¬ (10 + i = 4) by omega), if_pos (show 10 + i < 20 by omega)]
    refine Prod.ext ?_ ?_
    · rfl
    · show _ = i
      omega
  · have := b4 (i / 8)
    show cdec (10 + i) (12) = (22, i)
    unfold cdec
    rw [if_neg (show ¬ (10 + i = 1) by omega), if_neg (show ¬ (10 + i = 5) by omega), if_neg (show ¬ (10 + i = 2) by omega), if_neg (show ¬ (10 + i = 3) by omega), if_neg (show ¬ (10 + i = 4) by omega), if_pos (show 10 + i < 20 by omega)]
    refine Prod.ext ?_ ?_
    · rfl
    · show _ = i
      omega
  · have := b4 (i / 8)
    show cdec (10 + i) (15) = (23, i)
    unfold cdec
    rw [if_neg (show ¬ (10 + i = 1) by omega), if_neg (show ¬ (10 + i = 5) by omega), if_neg (show ¬ (10 + i = 2) by omega), if_neg (show ¬ (10 + i = 3) by omega), if_neg (show ¬ (10 + i = 4) by omega), if_pos (show 10 + i < 20 by omega)]
    refine Prod.ext ?_ ?_
    · rfl
    · show _ = i
      omega
  · subst h; rfl
  · have := b4 (i / 8)
    show cdec (10 + i) (17) = (28, i)
    unfold cdec
    rw [if_neg (show ¬ (10 + i = 1) by omega), if_neg (show ¬ (10 + i = 5) by omega), if_neg (show ¬ (10 + i = 2) by omega), if_neg (show ¬ (10 + i = 3) by omega), if_neg (show ¬ (10 + i = 4) by omega), if_pos (show 10 + i < 20 by omega)]
    refine Prod.ext ?_ ?_
    · rfl
    · show _ = i
      omega
  · rfl
  · subst h; rfl
  · have := b4 (i / 8)
    show cdec (10 + i) (7) = (50, i)
    unfold cdec
    rw [if_neg (show ¬ (10 + i = 1) by omega), if_neg (show ¬ (10 + i = 5) by omega), if_neg (show ¬ (10 + i = 2) by omega), if_neg (show ¬ (10 + i = 3) by omega), if_neg (show ¬ (10 + i = 4) by omega), if_pos (show 10 + i < 20 by omega)]
    refine Prod.ext ?_ ?_
    · rfl
    · show _ = i
      omega
  · have := b4 (i / 8)
    show cdec (10 + i) (11) = (51, i)
    unfold cdec
    rw [if_neg (show ¬ (10 + i = 1) by omega), if_neg (show ¬ (10 + i = 5) by omega), if_neg (show ¬ (10 + i = 2) by omega), if_neg (show ¬ (10 + i = 3) by omega), if_neg (show ¬ (10 + i = 4) by omega), if_pos (show 10 + i < 20 by omega)]
    refine Prod.ext ?_ ?_
    · rfl
    · show _ = i
      omega
  · have := b4 (i / 8)
    show cdec (10 + i) (4) = (52, i)
    unfold cdec
    rw [if_neg (show ¬ (10 + i = 1) by omega), if_neg (show ¬ (10 + i = 5) by omega), if_neg (show ¬ (10 + i = 2) by omega), if_neg (show ¬ (10 + i = 3) by omega), if_neg (show ¬ (10 + i = 4) by omega), if_pos (show 10 + i < 20 by omega)]
    refine Prod.ext ?_ ?_
    · rfl
    · show _ = i
      omega
  · have := b4 (i / 8)
    show cdec (100 + i) (0) = (53, i)
    unfold cdec
    rw [if_neg (show ¬ (100 + i = 1) by omega), if_neg (show ¬ (100 + i = 5) by omega), if_neg (show ¬ (100 + i = 2) by omega), if_neg (show ¬ (100 + i = 3) by omega), if_neg (show ¬ (100 + i = 4) by omega), if_neg (show ¬ (100 + i < 20) by omega), if_neg (show ¬ (100 + i < 30) by omega), if_neg (show ¬ (100 + i < 40) by omega), if_neg (show ¬ (100 + i < 50) by omega), if_neg (show ¬ (100 + i < 70) by omega), if_neg (show ¬ (100 + i < 100) by omega)]
    refine Prod.ext ?_ ?_
    · rfl
    · show _ = i
      omega
  · have := b4 (i / 8)
    show cdec (100 + i) (1) = (54, i)
    unfold cdec
    rw [if_neg (show ¬ (100 + i = 1) by omega), if_neg (show ¬ (100 + i = 5) by omega), if_neg (show ¬ (100 + i = 2) by omega), if_neg (show ¬ (100 + i = 3) by omega), if_neg (show ¬ (100 + i = 4) by omega), if_neg (show ¬ (100 + i < 20) by omega), if_neg (show ¬ (100 + i < 30) by omega), if_neg (show ¬ (100 + i < 40) by omega), if_neg (show ¬ (100 + i < 50) by omega), if_neg (show ¬ (100 + i < 70) by omega), if_neg (show ¬ (100 + i < 100) by omega)]
    refine Prod.ext ?_ ?_
    · rfl
    · show _ = i
      omega
  · subst h; rfl
  · have := b4 (i / 8)
    show cdec (50 + i) (0) = (62, i)
    unfold cdec
    rw [if_neg (show ¬ (50 + i = 1) by omega), if_neg (show ¬ (50 + i = 5) by omega), if_neg (show ¬ (50 + i = 2) by omega), if_neg (show ¬ (50 + i = 3) by omega), if_neg (show ¬ (50 + i = 4) by omega), if_neg (show ¬ (50 + i < 20) by omega), if_neg (show ¬ (50 + i < 30) by omega), if_neg (show ¬ (50 + i < 40) by omega), if_neg (show ¬ (50 + i < 50) by omega), if_pos (show 50 + i < 70 by omega)]
    refine Prod.ext ?_ ?_
    · rfl
    · show _ = i
      omega
  · have := b4 (i / 8)
    show cdec (50 + i) (1) = (63, i)
    unfold cdec
    rw [if_neg (show ¬ (50 + i = 1) by omega), if_neg (show ¬ (50 + i = 5) by omega), if_neg (show ¬ (50 + i = 2) by omega), if_neg (show ¬ (50 + i = 3) by omega), if_neg (show ¬ (50 + i = 4) by omega), if_neg (show ¬ (50 + i < 20) by omega), if_neg (show ¬ (50 + i < 30) by omega), if_neg (show ¬ (50 + i < 40) by omega), if_neg (show ¬ (50 + i < 50) by omega), if_pos (show 50 + i < 70 by omega)]
    refine Prod.ext ?_ ?_
    · rfl
    · show _ = i
      omega
  · have := b4 (i / 8)
    show cdec (70 + i / 16) (i % 16) = (64, i)
    unfold cdec
    rw [if_neg (show ¬ (70 + i / 16 = 1) by omega), if_neg (show ¬ (70 + i / 16 = 5) by omega), if_neg (show ¬ (70 + i / 16 = 2) by omega), if_neg (show ¬ (70 + i / 16 = 3) by omega), if_neg (show ¬ (70 + i / 16 = 4) by omega), if_neg (show ¬ (70 + i / 16 < 20) by omega), if_neg (show ¬ (70 + i / 16 < 30) by omega), if_neg (show ¬ (70 + i / 16 < 40) by omega), if_neg (show ¬ (70 + i / 16 < 50) by omega), if_neg (show ¬ (70 + i / 16 < 70) by omega), if_pos (show 70 + i / 16 < 100 by omega)]
    refine Prod.ext ?_ ?_
    · rfl
    · show _ = i
      omega
  · have := b4 (i / 8)
    show cdec (40 + i) (2) = (65, i)
    unfold cdec
    rw [if_neg (show ¬ (40 + i = 1) by omega), if_neg (show ¬ (40 + i = 5) by omega), if_neg (show ¬ (40 + i = 2) by omega), if_neg (show ¬ (40 + i = 3) by omega), if_neg (show ¬ (40 + i = 4) by omega), if_neg (show ¬ (40 + i < 20) by omega), if_neg (show ¬ (40 + i < 30) by omega), if_neg (show ¬ (40 + i < 40) by omega), if_pos (show 40 + i < 50 by omega)]
    refine Prod.ext ?_ ?_
    · rfl
    · show _ = i
      omega
  · rfl
  · have := b4 (i / 8)
    show cdec (10 + i) (0) = (71, i)
    unfold cdec
    rw [if_neg (show ¬ (10 + i = 1) by omega), if_neg (show ¬ (10 + i = 5) by omega), if_neg (show ¬ (10 + i = 2) by omega), if_neg (show ¬ (10 + i = 3) by omega), if_neg (show ¬ (10 + i = 4) by omega), if_pos (show 10 + i < 20 by omega)]
    refine Prod.ext ?_ ?_
    · rfl
    · show _ = i
      omega
  · have := b4 (i / 8)
    show cdec (10 + i) (2) = (72, i)
    unfold cdec
    rw [if_neg (show ¬ (10 + i = 1) by omega), if_neg (show ¬ (10 + i = 5) by omega), if_neg (show ¬ (10 + i = 2) by omega), if_neg (show ¬ (10 + i = 3) by omega), if_neg (show ¬ (10 + i = 4) by omega), if_pos (show 10 + i < 20 by omega)]
    refine Prod.ext ?_ ?_
    · rfl
    · show _ = i
      omega
  · have := b4 (i / 8)
    show cdec (10 + i) (3) = (73, i)
    unfold cdec
    rw [if_neg (show ¬ (10 + i = 1) by omega), if_neg (show ¬ (10 + i = 5) by omega), if_neg (show ¬ (10 + i = 2) by omega), if_neg (show ¬ (10 + i = 3) by omega), if_neg (show ¬ (10 + i = 4) by omega), if_pos (show 10 + i < 20 by omega)]
    refine Prod.ext ?_ ?_
    · rfl
    · show _ = i
      omega
  · have := b4 (i / 8)
    show cdec (30 + i / 8) (i % 8) = (74, i)
    unfold cdec
    rw [if_neg (show ¬ (30 + i / 8 = 1) by omega), if_neg (show ¬ (30 + i / 8 = 5) by omega), if_neg (show ¬ (30 + i / 8 = 2) by omega), if_neg (show ¬ (30 + i / 8 = 3) by omega), if_neg (show ¬ (30 + i / 8 = 4) by omega), if_neg (show ¬ (30 + i / 8 < 20) by omega), if_neg (show ¬ (30 + i / 8 < 30) by omega), if_pos (show 30 + i / 8 < 40 by omega)]
    refine Prod.ext ?_ ?_
    · rfl
    · show _ = i
      omega
  · rfl
  · have := b4 (i / 8)
    show cdec (50 + i) (2) = (76, i)
    unfold cdec
    rw [if_neg (show ¬ (50 + i = 1) by omega), if_neg (show ¬ (50 + i = 5) by omega), if_neg (show ¬ (50 + i = 2) by omega), if_neg (show ¬ (50 + i = 3) by omega), if_neg (show ¬ (50 + i = 4) by omega), if_neg (show ¬ (50 + i < 20) by omega), if_neg (show ¬ (50 + i < 30) by omega), if_neg (show ¬ (50 + i < 40) by omega), if_neg (show ¬ (50 + i < 50) by omega), if_pos (show 50 + i < 70 by omega)]
    refine Prod.ext ?_ ?_
    · rfl
    · show _ = i
      omega
  · rfl
  · subst h; rfl
  · subst h; rfl
  · subst h; rfl
  · subst h; rfl
  · exact h.elim
theorem cR_pos {sz : Nat → Nat → Nat} {r i : Nat} (h : cV sz r i) : 0 < cR r i ∧ cR r i ≠ 6 := by
  unfold cV at h
  split at h <;> simp only [cR] <;> first | omega | exact h.elim
/-- a row of numbers that is written once (w is its length, -1 for none), and where it is told -/
def TB (h : jm_H) (ρ : Nat → Nat) (v : Value) (w : Int32) (f : Nat → Int32) : Prop :=
  (w = -1 ∧ v = .null) ∨ ∃ q n, v = .ref q ∧ w = nI n ∧ n ≤ 256 ∧ h.1 q = some (100, n) ∧ ρ q = 0 ∧ ∀ i, i < n → h.2 100 i q = .int (f i)
/-- a letter -/
def LET (h : jm_H) (ρ : Nat → Nat) (q : Nat) (a b c d w : Int32) (f : Nat → Int32) : Prop :=
  h.1 q = some (5, 0) ∧ ρ q = 0 ∧ h.2 5 0 q = .int a ∧ h.2 5 1 q = .int b ∧ h.2 5 2 q = .int c ∧ h.2 5 3 q = .int d ∧ TB h ρ (h.2 5 4 q) w f
abbrev LETC (h : jm_H) (ρ : Nat → Nat) (q : Nat) (C : mS) (k : Nat) : Prop := LET h ρ q (C 35 k) (C 36 k) (C 37 k) (C 38 k) (C 67 k) (fun i => C 68 (256 * k + i))
/-- the object x holds the numbers C: its parts lie at L, told apart by ρ, as many as sz says -/
def co (Γ : jm_G) (h : jm_H) (x : Nat) (L : Nat → Nat → Nat) (ρ : Nat → Nat) (sz : Nat → Nat → Nat) (C : mS) : Prop :=
  (∀ r i, cV sz r i → h.1 (cA x L r i) = some (cK r) ∧ ρ (cA x L r i) = cR r i ∧ h.2 (cT r) (cJ r i) (cA x L r i) = cE Γ L r i (C r i)) ∧
  (h.1 (L 0 0) = some (103, 8) ∧ ρ (L 0 0) = 2 ∧ h.1 (L 0 1) = some (104, 12) ∧ ρ (L 0 1) = 3 ∧ h.1 (L 0 2) = some (105, 20) ∧ ρ (L 0 2) = 4 ∧ ∀ a, a < sz 1 0 → h.1 (L 3 a) = some (106, 7) ∧ ρ (L 3 a) = 30 + a) ∧
  (∀ a, a < sz 1 0 → TB h ρ (h.2 1 14 (L 1 a)) (C 57 a) (fun i => C 58 (256 * a + i)) ∧ TB h ρ (h.2 1 16 (L 1 a)) (C 59 a) (fun i => C 66 (256 * a + i))) ∧
  (∀ i, cV sz 53 i → TB h ρ (h.2 3 2 (L 4 i)) (C 55 i) (fun q => C 56 (256 * i + q))) ∧
  (∀ k, k < sz 8 0 → LETC h ρ (L 8 k) C k) ∧ cB sz
/-- what was there at h0 has kept its kind, and its role; what has none has kept its numbers -/
def xt (ρ0 : Nat → Nat) (h0 : jm_H) (ρ : Nat → Nat) (h : jm_H) : Prop := ∀ p, h0.1 p ≠ none → h.1 p = h0.1 p ∧ ρ p = ρ0 p ∧ (ρ0 p = 0 ∨ ρ0 p = 6 → ∀ t i, h.2 t i p = h0.2 t i p)
end
section
variable {Γ : jm_G} {h h' h0 : jm_H} {x : Nat} {L : Nat → Nat → Nat} {ρ ρ0 ρ' : Nat → Nat} {sz : Nat → Nat → Nat} {C : mS}
theorem xt.rf : xt ρ h ρ h := fun _ _ => ⟨rfl, rfl, fun _ _ _ => rfl⟩
theorem xt.tr (a : xt ρ0 h0 ρ h) (b : xt ρ h ρ' h') : xt ρ0 h0 ρ' h' := by
  intro p hp
  obtain ⟨a1, a2, a3⟩ := a p hp
  obtain ⟨b1, b2, b3⟩ := b p (by rw [a1]; exact hp)
  exact ⟨b1.trans a1, b2.trans a2, fun z t i => (b3 (z.imp a2.trans a2.trans) t i).trans (a3 z t i)⟩
theorem TB.fr {v : Value} {w : Int32} {f : Nat → Int32} (hh : ∀ q, h.1 q ≠ none → ρ q = 0 → h'.1 q = h.1 q ∧ ρ' q = ρ q ∧ ∀ t i, h'.2 t i q = h.2 t i q) (hT : TB h ρ v w f) : TB h' ρ' v w f := by
  rcases hT with q | ⟨q, n, q1, q2, q3, q4, q5, q6⟩
  · exact Or.inl q
  · obtain ⟨r1, r2, r3⟩ := hh q (by rw [q4]; exact fun e => by cases e) q5
    exact Or.inr ⟨q, n, q1, q2, q3, r1.trans q4, r2.trans q5, fun i hi => (r3 100 i).trans (q6 i hi)⟩
theorem LET.fr {q : Nat} {a b c d w : Int32} {f : Nat → Int32} (hh : ∀ q, h.1 q ≠ none → ρ q = 0 → h'.1 q = h.1 q ∧ ρ' q = ρ q ∧ ∀ t i, h'.2 t i q = h.2 t i q) (hT : LET h ρ q a b c d w f) : LET h' ρ' q a b c d w f := by
  obtain ⟨q1, q2, q3, q4, q5, q6, q7⟩ := hT
  obtain ⟨r1, r2, r3⟩ := hh q (by rw [q1]; exact fun e => by cases e) q2
  refine ⟨r1.trans q1, r2.trans q2, (r3 _ _).trans q3, (r3 _ _).trans q4, (r3 _ _).trans q5, (r3 _ _).trans q6, ?_⟩
  rw [r3]
  exact q7.fr hh
/-- a number is written -/
theorem co_wr {r i : Nat} {y : Int32} {v : Value} (hc : co Γ h x L ρ sz C) (hf : xt ρ0 h0 ρ h) (hl : cV sz r i) (hv : cE Γ L r i y = v) (hj : cT r = 1 → cJ r i ≠ 14 ∧ cJ r i ≠ 16) (hj2 : cT r = 3 → cJ r i ≠ 2) (hn57 : r ≠ 57) (hn58 : r ≠ 58) (hn59 : r ≠ 59) (hn66 : r ≠ 66) (hn55 : r ≠ 55) (hn56 : r ≠ 56) (hl1 : r ≠ 35) (hl2 : r ≠ 36) (hl3 : r ≠ 37) (hl4 : r ≠ 38) (hl5 : r ≠ 67) (hl6 : r ≠ 68) :
    co Γ (jm_set h (cT r) (cJ r i) (cA x L r i) v) x L ρ sz (mu C r i y) ∧ xt ρ0 h0 ρ (jm_set h (cT r) (cJ r i) (cA x L r i) v) := by
  obtain ⟨c1, c2, c3, c4, c5, cb⟩ := hc
  have hA := c1 r i hl
  have hpos := cR_pos hl
  have hz6 : ∀ q, ρ q = 0 ∨ ρ q = 6 → ∀ t j, (jm_set h (cT r) (cJ r i) (cA x L r i) v).2 t j q = h.2 t j q := by
    intro q h2 t j
    show (if t = cT r ∧ j = cJ r i ∧ q = cA x L r i then v else h.2 t j q) = _
    rw [if_neg]
    rintro ⟨-, -, e⟩
    rw [e, hA.2.1] at h2
    omega
  have hz : ∀ q, h.1 q ≠ none → ρ q = 0 → (jm_set h (cT r) (cJ r i) (cA x L r i) v).1 q = h.1 q ∧ ρ q = ρ q ∧ ∀ t j, (jm_set h (cT r) (cJ r i) (cA x L r i) v).2 t j q = h.2 t j q := by
    intro q _ h2
    exact ⟨rfl, rfl, hz6 q (Or.inl h2)⟩
  refine ⟨⟨?_, c2, ?_, ?_, ?_, cb⟩, ?_⟩
  · intro r' i' hl'
    obtain ⟨d1, d2, d3⟩ := c1 r' i' hl'
    refine ⟨d1, d2, ?_⟩
    show (if cT r' = cT r ∧ cJ r' i' = cJ r i ∧ cA x L r' i' = cA x L r i then v else h.2 (cT r') (cJ r' i') (cA x L r' i')) = cE Γ L r' i' (if r' = r ∧ i' = i then y else C r' i')
    by_cases e : cT r' = cT r ∧ cJ r' i' = cJ r i ∧ cA x L r' i' = cA x L r i
    · rw [if_pos e]
      have e1 : (r', i') = (r, i) := by
        rw [← cdec_key cb hl', ← cdec_key cb hl, ← d2, ← hA.2.1, e.2.1, e.2.2]
      cases e1
      rw [if_pos ⟨rfl, rfl⟩, hv]
    · rw [if_neg e, if_neg, d3]
      rintro ⟨rfl, rfl⟩
      exact e ⟨rfl, rfl, rfl⟩
  · intro a ha
    obtain ⟨d1, d2⟩ := c3 a ha
    have e1 : (jm_set h (cT r) (cJ r i) (cA x L r i) v).2 1 14 (L 1 a) = h.2 1 14 (L 1 a) := by
      show (if 1 = cT r ∧ 14 = cJ r i ∧ L 1 a = cA x L r i then v else _) = _
      rw [if_neg]
      rintro ⟨q1, q2, -⟩
      exact (hj q1.symm).1 q2.symm
    have e2 : (jm_set h (cT r) (cJ r i) (cA x L r i) v).2 1 16 (L 1 a) = h.2 1 16 (L 1 a) := by
      show (if 1 = cT r ∧ 16 = cJ r i ∧ L 1 a = cA x L r i then v else _) = _
      rw [if_neg]
      rintro ⟨q1, q2, -⟩
      exact (hj q1.symm).2 q2.symm
    rw [e1, e2, mu_row (Ne.symm hn57), mu_row (Ne.symm hn58), mu_row (Ne.symm hn59), mu_row (Ne.symm hn66)]
    exact ⟨d1.fr hz, d2.fr hz⟩
  · intro j hj3
    have e1 : (jm_set h (cT r) (cJ r i) (cA x L r i) v).2 3 2 (L 4 j) = h.2 3 2 (L 4 j) := by
      show (if 3 = cT r ∧ 2 = cJ r i ∧ L 4 j = cA x L r i then v else _) = _
      rw [if_neg]
      rintro ⟨q1, q2, -⟩
      exact hj2 q1.symm q2.symm
    rw [e1, mu_row (Ne.symm hn55), mu_row (Ne.symm hn56)]
    exact (c4 j hj3).fr hz
  · intro k hk
    unfold LETC
    rw [mu_row (Ne.symm hl1), mu_row (Ne.symm hl2), mu_row (Ne.symm hl3), mu_row (Ne.symm hl4), mu_row (Ne.symm hl5), mu_row (Ne.symm hl6)]
    exact (c5 k hk).fr hz
  · intro p hp
    obtain ⟨f1, f2, f3⟩ := hf p hp
    refine ⟨f1, f2, fun z t j => ?_⟩
    rw [hz6 p (z.imp f2.trans f2.trans) t j]
    exact f3 z t j
/-- a cell is born -/
theorem co_nw {q : Nat} {kn : Nat × Nat} {dv : Nat → Value} (hc : co Γ h x L ρ sz C) (hq : h.1 q = none) (a : Nat) : co Γ (jm_new h q kn dv) x L (fun p => if p = q then a else ρ p) sz C := by
  obtain ⟨c1, c2, c3, c4, c5, cb⟩ := hc
  have k0 : ∀ p, h.1 p ≠ none → p ≠ q := fun p hp e => hp (by rw [e]; exact hq)
  have hz : ∀ p, h.1 p ≠ none → (jm_new h q kn dv).1 p = h.1 p ∧ (if p = q then a else ρ p) = ρ p ∧ ∀ t j, (jm_new h q kn dv).2 t j p = h.2 t j p := by
    intro p hp
    have := k0 p hp
    exact ⟨if_neg this, if_neg this, fun t j => if_neg this⟩
  have hz' : ∀ p, h.1 p ≠ none → ρ p = 0 → (jm_new h q kn dv).1 p = h.1 p ∧ (if p = q then a else ρ p) = ρ p ∧ ∀ t j, (jm_new h q kn dv).2 t j p = h.2 t j p := fun p hp _ => hz p hp
  have ns : ∀ {p : Nat} {k : Nat × Nat}, h.1 p = some k → h.1 p ≠ none := fun e e2 => by rw [e] at e2; cases e2
  refine ⟨?_, ?_, ?_, ?_, ?_, cb⟩
  · intro r i hl
    obtain ⟨d1, d2, d3⟩ := c1 r i hl
    obtain ⟨z1, z2, z3⟩ := hz _ (ns d1)
    exact ⟨z1.trans d1, z2.trans d2, (z3 _ _).trans d3⟩
  · obtain ⟨e1, e2, e3, e4, e5, e6, e7⟩ := c2
    refine ⟨(hz _ (ns e1)).1.trans e1, (hz _ (ns e1)).2.1.trans e2, (hz _ (ns e3)).1.trans e3, (hz _ (ns e3)).2.1.trans e4, (hz _ (ns e5)).1.trans e5, (hz _ (ns e5)).2.1.trans e6, fun a ha => ?_⟩
    obtain ⟨f1, f2⟩ := e7 a ha
    exact ⟨(hz _ (ns f1)).1.trans f1, (hz _ (ns f1)).2.1.trans f2⟩
  · intro a' ha
    obtain ⟨d1, d2⟩ := c3 a' ha
    have e : h.1 (L 1 a') = some (cK 3) := (c1 3 a' ha).1
    rw [(hz _ (ns e)).2.2, (hz _ (ns e)).2.2]
    exact ⟨d1.fr hz', d2.fr hz'⟩
  · intro j hj
    have e : h.1 (L 4 j) = some (cK 53) := (c1 53 j hj).1
    rw [(hz _ (ns e)).2.2]
    exact (c4 j hj).fr hz'
  · intro k hk
    exact (c5 k hk).fr hz'
theorem xt_nw {q : Nat} {kn : Nat × Nat} {dv : Nat → Value} (hf : xt ρ0 h0 ρ h) (hq : h.1 q = none) (a : Nat) : xt ρ0 h0 (fun p => if p = q then a else ρ p) (jm_new h q kn dv) ∧ h0.1 q = none := by
  have h0q : h0.1 q = none := by
    cases e : h0.1 q with
    | none => rfl
    | some z =>
      have := (hf q (by rw [e]; exact fun z => by cases z)).1
      rw [hq, e] at this
      cases this
  refine ⟨fun p hp => ?_, h0q⟩
  have hne : p ≠ q := fun e => hp (by rw [e]; exact h0q)
  obtain ⟨f1, f2, f3⟩ := hf p hp
  exact ⟨(if_neg hne).trans f1, (if_neg hne).trans f2, fun z t i => (if_neg hne).trans (f3 z t i)⟩
end
