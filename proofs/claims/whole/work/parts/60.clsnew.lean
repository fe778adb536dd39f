/-! THE CLASS: constructors; parts and children are told. Written by wip/whole/gen/p60.py -/
section
variable {Γ : jm_G} {d q : Nat} {h : jm_H}
theorem k_P_init {r : Nat} (hd : 1 ≤ d) (hq : h.1 q = some (2, 0)) : jm_M Γ m_P_init d [.ref q, .ref r] h 0 0 (fun oc h' => oc = .inl none ∧ h' = jm_set (jm_set h 2 1 q (.int 1)) 2 0 q (.ref r)) := by
  refine jm_entry (by decide +kernel) (List.forall_mem_cons.mpr ⟨rfl, List.forall_mem_cons.mpr ⟨rfl, fun _ h => nomatch h⟩⟩) (Nat.le_of_ble_eq_true rfl) ?_
  show jm_W _ _ _ _ _ _ 0 [some (.ref q), some (.ref r)] [] _
  first | refine jm_aload_n d_P_init_0 rfl ?_ | refine jm_aload_nN d_P_init_0 rfl ?_
  refine jm_objInit d_P_init_1 l_P_3 iw_obj cw_obj (by omega) (Nat.le_of_ble_eq_true rfl) ?_
  first | refine jm_aload_n d_P_init_4 rfl ?_ | refine jm_aload_nN d_P_init_4 rfl ?_
  refine jm_iconstL (v := 1) d_P_init_5 (by decide) ?_
  refine jm_putf d_P_init_6 f_P_9 hq rfl rfl ?_
  first | refine jm_aload_n d_P_init_9 rfl ?_ | refine jm_aload_nN d_P_init_9 rfl ?_
  first | refine jm_aload_n d_P_init_10 rfl ?_ | refine jm_aload_nN d_P_init_10 rfl ?_
  refine jm_putF d_P_init_11 f_P_15 rfl hq rfl rfl ?_
  exact jm_vret d_P_init_14 rfl ⟨rfl, rfl⟩
theorem k_C_init {r : Nat} (hd : 1 ≤ d) (hq : h.1 q = some (3, 0)) : jm_M Γ m_C_init d [.ref q, .ref r] h 0 0 (fun oc h' => oc = .inl none ∧ h' = jm_set h 3 0 q (.ref r)) := by
  refine jm_entry (by decide +kernel) (List.forall_mem_cons.mpr ⟨rfl, List.forall_mem_cons.mpr ⟨rfl, fun _ h => nomatch h⟩⟩) (Nat.le_of_ble_eq_true rfl) ?_
  show jm_W _ _ _ _ _ _ 0 [some (.ref q), some (.ref r)] [] _
  first | refine jm_aload_n d_C_init_0 rfl ?_ | refine jm_aload_nN d_C_init_0 rfl ?_
  refine jm_objInit d_C_init_1 l_C_1 iw_obj cw_obj (by omega) (Nat.le_of_ble_eq_true rfl) ?_
  first | refine jm_aload_n d_C_init_4 rfl ?_ | refine jm_aload_nN d_C_init_4 rfl ?_
  first | refine jm_aload_n d_C_init_5 rfl ?_ | refine jm_aload_nN d_C_init_5 rfl ?_
  refine jm_putF d_C_init_6 f_C_7 rfl hq rfl rfl ?_
  exact jm_vret d_C_init_9 rfl ⟨rfl, rfl⟩
theorem k_L_initN {a b c e : Int32} (hd : 1 ≤ d) (hq : h.1 q = some (5, 0)) : jm_M Γ m_L_init d [.ref q, .int a, .int b, .int c, .int e, .null] h 0 0 (fun oc h' => oc = .inl none ∧ h' = jm_set (jm_set (jm_set (jm_set (jm_set h 5 0 q (.int a)) 5 1 q (.int b)) 5 2 q (.int c)) 5 3 q (.int e)) 5 4 q .null) := by
  refine jm_entry (by decide +kernel) (List.forall_mem_cons.mpr ⟨rfl, List.forall_mem_cons.mpr ⟨rfl, List.forall_mem_cons.mpr ⟨rfl, List.forall_mem_cons.mpr ⟨rfl, List.forall_mem_cons.mpr ⟨rfl, List.forall_mem_cons.mpr ⟨rfl, fun _ h => nomatch h⟩⟩⟩⟩⟩⟩) (Nat.le_of_ble_eq_true rfl) ?_
  show jm_W _ _ _ _ _ _ 0 [some (.ref q), some (.int a), some (.int b), some (.int c), some (.int e), some (.null)] [] _
  first | refine jm_aload_n d_L_init_0 rfl ?_ | refine jm_aload_nN d_L_init_0 rfl ?_
  refine jm_objInit d_L_init_1 l_L_3 iw_obj cw_obj (by omega) (Nat.le_of_ble_eq_true rfl) ?_
  first | refine jm_aload_n d_L_init_4 rfl ?_ | refine jm_aload_nN d_L_init_4 rfl ?_
  refine jm_iload_n d_L_init_5 rfl ?_
  refine jm_putF d_L_init_6 f_L_9 rfl hq rfl rfl ?_
  first | refine jm_aload_n d_L_init_9 rfl ?_ | refine jm_aload_nN d_L_init_9 rfl ?_
  refine jm_iload_n d_L_init_10 rfl ?_
  refine jm_putF d_L_init_11 f_L_15 rfl hq rfl rfl ?_
  first | refine jm_aload_n d_L_init_14 rfl ?_ | refine jm_aload_nN d_L_init_14 rfl ?_
  refine jm_iload_n d_L_init_15 rfl ?_
  refine jm_putF d_L_init_16 f_L_18 rfl hq rfl rfl ?_
  first | refine jm_aload_n d_L_init_19 rfl ?_ | refine jm_aload_nN d_L_init_19 rfl ?_
  refine jm_iload d_L_init_20 rfl ?_
  refine jm_putF d_L_init_22 f_L_21 rfl hq rfl rfl ?_
  first | refine jm_aload_n d_L_init_25 rfl ?_ | refine jm_aload_nN d_L_init_25 rfl ?_
  first | refine jm_aload d_L_init_26 rfl ?_ | refine jm_aloadN d_L_init_26 rfl ?_
  refine jm_putF d_L_init_28 f_L_24 rfl hq rfl rfl ?_
  exact jm_vret d_L_init_31 rfl ⟨rfl, rfl⟩
theorem k_L_init {a b c e : Int32} {r : Nat} (hd : 1 ≤ d) (hq : h.1 q = some (5, 0)) : jm_M Γ m_L_init d [.ref q, .int a, .int b, .int c, .int e, .ref r] h 0 0 (fun oc h' => oc = .inl none ∧ h' = jm_set (jm_set (jm_set (jm_set (jm_set h 5 0 q (.int a)) 5 1 q (.int b)) 5 2 q (.int c)) 5 3 q (.int e)) 5 4 q (.ref r)) := by
  refine jm_entry (by decide +kernel) (List.forall_mem_cons.mpr ⟨rfl, List.forall_mem_cons.mpr ⟨rfl, List.forall_mem_cons.mpr ⟨rfl, List.forall_mem_cons.mpr ⟨rfl, List.forall_mem_cons.mpr ⟨rfl, List.forall_mem_cons.mpr ⟨rfl, fun _ h => nomatch h⟩⟩⟩⟩⟩⟩) (Nat.le_of_ble_eq_true rfl) ?_
  show jm_W _ _ _ _ _ _ 0 [some (.ref q), some (.int a), some (.int b), some (.int c), some (.int e), some (.ref r)] [] _
  first | refine jm_aload_n d_L_init_0 rfl ?_ | refine jm_aload_nN d_L_init_0 rfl ?_
  refine jm_objInit d_L_init_1 l_L_3 iw_obj cw_obj (by omega) (Nat.le_of_ble_eq_true rfl) ?_
  first | refine jm_aload_n d_L_init_4 rfl ?_ | refine jm_aload_nN d_L_init_4 rfl ?_
  refine jm_iload_n d_L_init_5 rfl ?_
  refine jm_putF d_L_init_6 f_L_9 rfl hq rfl rfl ?_
  first | refine jm_aload_n d_L_init_9 rfl ?_ | refine jm_aload_nN d_L_init_9 rfl ?_
  refine jm_iload_n d_L_init_10 rfl ?_
  refine jm_putF d_L_init_11 f_L_15 rfl hq rfl rfl ?_
  first | refine jm_aload_n d_L_init_14 rfl ?_ | refine jm_aload_nN d_L_init_14 rfl ?_
  refine jm_iload_n d_L_init_15 rfl ?_
  refine jm_putF d_L_init_16 f_L_18 rfl hq rfl rfl ?_
  first | refine jm_aload_n d_L_init_19 rfl ?_ | refine jm_aload_nN d_L_init_19 rfl ?_
  refine jm_iload d_L_init_20 rfl ?_
  refine jm_putF d_L_init_22 f_L_21 rfl hq rfl rfl ?_
  first | refine jm_aload_n d_L_init_25 rfl ?_ | refine jm_aload_nN d_L_init_25 rfl ?_
  first | refine jm_aload d_L_init_26 rfl ?_ | refine jm_aloadN d_L_init_26 rfl ?_
  refine jm_putF d_L_init_28 f_L_24 rfl hq rfl rfl ?_
  exact jm_vret d_L_init_31 rfl ⟨rfl, rfl⟩
end
section
variable {Γ : jm_G} {h h0 : jm_H} {x : Nat} {L : Nat → Nat → Nat} {ρ ρ0 : Nat → Nat} {sz : Nat → Nat → Nat} {C : mS}
theorem lu_ne {g i q i' : Nat} (h : i' ≠ i) : lu L g i q g i' = L g i' := if_neg (fun z => h z.2)
theorem lu_eq {g i q : Nat} : lu L g i q g i = q := if_pos ⟨rfl, rfl⟩
/-- part p is told -/
theorem co_pt {p q r : Nat} (hc : co Γ h x L ρ sz C) (h6 : ρ q = 6) (hk : h.1 q = some (2, 0)) (f0 : h.2 2 0 q = .ref (L 1 r)) (f1 : h.2 2 1 q = .int 1) (f2 : h.2 2 2 q = .int 0) (hp : p < 8) (hz : sz 5 p ≠ 1) (hr : r < 8) (hno : ∀ a, a < sz 1 0 → C 10 a = -1 ∨ (C 10 a).toNatClampNeg ≠ p) :
    co Γ h x (lu L 5 p q) (rl ρ q (40 + p)) (lu sz 5 p 1) (mu (mu (mu C 11 p (nI r)) 12 p 1) 65 p 0) := by
  obtain ⟨c1, c2, c3, c4, c5, cb⟩ := co_rl (a := 40 + p) hc h6
  have er : rl ρ q (40 + p) q = 40 + p := if_pos rfl
  have hcl := nI_clamp (show r < 2 ^ 31 by omega)
  refine ⟨?_, c2, c3, c4, c5, cb⟩
  intro r' i hl
  unfold cV at hl
  split at hl
  · exact c1 1 i hl
  · exact c1 3 i hl
  · exact c1 4 i hl
  · exact c1 5 i hl
  · exact c1 9 i hl
  · obtain ⟨d1, d2, d3⟩ := c1 10 i hl
    refine ⟨d1, d2, d3.trans ?_⟩
    show (if C 10 i = -1 then Value.null else .ref (L 5 (C 10 i).toNatClampNeg)) = (if C 10 i = -1 then Value.null else .ref (lu L 5 p q 5 (C 10 i).toNatClampNeg))
    rcases hno i hl with z | z
    · rw [if_pos z, if_pos z]
    · rw [lu_ne z]
  · by_cases e : i = p
    · subst e
      show h.1 (lu L 5 i q 5 i) = _ ∧ rl ρ q (40 + i) (lu L 5 i q 5 i) = _ ∧ h.2 2 0 (lu L 5 i q 5 i) = _
      rw [lu_eq]
      exact ⟨hk, er, (f0.trans (by show Value.ref (L 1 r) = .ref (L 1 (mu (mu (mu C 11 i (nI r)) 12 i 1) 65 i 0 11 i).toNatClampNeg); rw [show mu (mu (mu C 11 i (nI r)) 12 i 1) 65 i 0 11 i = nI r by simp [mu], hcl]))⟩
    · have hl' : cV sz 11 i := ⟨hl.1, by have := hl.2; rw [lu_ne e] at this; exact this⟩
      obtain ⟨d1, d2, d3⟩ := c1 11 i hl'
      show h.1 (lu L 5 p q 5 i) = _ ∧ rl ρ q (40 + p) (lu L 5 p q 5 i) = _ ∧ h.2 2 0 (lu L 5 p q 5 i) = _
      rw [lu_ne e]
      refine ⟨d1, d2, d3.trans ?_⟩
      show cE Γ L 11 i (C 11 i) = cE Γ L 11 i (mu (mu (mu C 11 p (nI r)) 12 p 1) 65 p 0 11 i)
      rw [show mu (mu (mu C 11 p (nI r)) 12 p 1) 65 p 0 11 i = C 11 i by simp [mu, e]]
  · by_cases e : i = p
    · subst e
      show h.1 (lu L 5 i q 5 i) = _ ∧ rl ρ q (40 + i) (lu L 5 i q 5 i) = _ ∧ h.2 2 1 (lu L 5 i q 5 i) = _
      rw [lu_eq]
      exact ⟨hk, er, (f1.trans (by show Value.int 1 = .int (mu (mu (mu C 11 i (nI r)) 12 i 1) 65 i 0 12 i); simp [mu]))⟩
    · have hl' : cV sz 12 i := ⟨hl.1, by have := hl.2; rw [lu_ne e] at this; exact this⟩
      obtain ⟨d1, d2, d3⟩ := c1 12 i hl'
      show h.1 (lu L 5 p q 5 i) = _ ∧ rl ρ q (40 + p) (lu L 5 p q 5 i) = _ ∧ h.2 2 1 (lu L 5 p q 5 i) = _
      rw [lu_ne e]
      refine ⟨d1, d2, d3.trans ?_⟩
      show cE Γ L 12 i (C 12 i) = cE Γ L 12 i (mu (mu (mu C 11 p (nI r)) 12 p 1) 65 p 0 12 i)
      rw [show mu (mu (mu C 11 p (nI r)) 12 p 1) 65 p 0 12 i = C 12 i by simp [mu, e]]
  · exact c1 15 i hl
  · exact c1 16 i hl
  · exact c1 17 i hl
  · exact c1 18 i hl
  · exact c1 22 i hl
  · exact c1 23 i hl
  · exact c1 27 i hl
  · exact c1 28 i hl
  · exact c1 32 i hl
  · exact c1 34 i hl
  · exact c1 50 i hl
  · exact c1 51 i hl
  · exact c1 52 i hl
  · exact c1 53 i hl
  · exact c1 54 i hl
  · exact c1 60 i hl
  · exact c1 62 i hl
  · exact c1 63 i hl
  · exact c1 64 i hl
  · by_cases e : i = p
    · subst e
      show h.1 (lu L 5 i q 5 i) = _ ∧ rl ρ q (40 + i) (lu L 5 i q 5 i) = _ ∧ h.2 2 2 (lu L 5 i q 5 i) = _
      rw [lu_eq]
      exact ⟨hk, er, (f2.trans (by show Value.int 0 = .int (mu (mu (mu C 11 i (nI r)) 12 i 1) 65 i 0 65 i); simp [mu]))⟩
    · have hl' : cV sz 65 i := ⟨hl.1, by have := hl.2; rw [lu_ne e] at this; exact this⟩
      obtain ⟨d1, d2, d3⟩ := c1 65 i hl'
      show h.1 (lu L 5 p q 5 i) = _ ∧ rl ρ q (40 + p) (lu L 5 p q 5 i) = _ ∧ h.2 2 2 (lu L 5 p q 5 i) = _
      rw [lu_ne e]
      refine ⟨d1, d2, d3.trans ?_⟩
      show cE Γ L 65 i (C 65 i) = cE Γ L 65 i (mu (mu (mu C 11 p (nI r)) 12 p 1) 65 p 0 65 i)
      rw [show mu (mu (mu C 11 p (nI r)) 12 p 1) 65 p 0 65 i = C 65 i by simp [mu, e]]
  · exact c1 70 i hl
  · exact c1 71 i hl
  · exact c1 72 i hl
  · exact c1 73 i hl
  · exact c1 74 i hl
  · exact c1 75 i hl
  · exact c1 76 i hl
  · exact c1 77 i hl
  · exact c1 78 i hl
  · exact c1 79 i hl
  · exact c1 80 i hl
  · exact c1 81 i hl
  · exact hl.elim
/-- child k of a is told: agent b -/
theorem co_cd {a b q k : Nat} (hc : co Γ h x L ρ sz C) (hf : xt ρ0 h0 ρ h) (hq0 : h0.1 q = none) (h6 : ρ q = 6) (hk : h.1 q = some (3, 0)) (f0 : h.2 3 0 q = .ref (L 1 b)) (f1 : h.2 3 1 q = .int 0) (f2 : h.2 3 2 q = .null) (ha : a < sz 1 0) (hk4 : sz 4 a = k) (hk7 : k < 7) (hb : b < 8) :
    co Γ (jm_set h 100 k (L 3 a) (.ref q)) x (lu L 4 (8 * a + k) q) (rl ρ q (100 + (8 * a + k))) (lu sz 4 a (k + 1)) (mu (mu (mu C 53 (8 * a + k) (nI b)) 54 (8 * a + k) 0) 55 (8 * a + k) (-1)) ∧ xt ρ0 h0 (rl ρ q (100 + (8 * a + k))) (jm_set h 100 k (L 3 a) (.ref q)) := by
  have hra := (hc.2.1.2.2.2.2.2.2 a ha).2
  have hqa : L 3 a ≠ q := fun e => by rw [e, h6] at hra; omega
  obtain ⟨c1, c2, c3, c4, c5, cb⟩ := co_rl (a := 100 + (8 * a + k)) hc h6
  have er : rl ρ q (100 + (8 * a + k)) q = 100 + (8 * a + k) := if_pos rfl
  have hra' : rl ρ q (100 + (8 * a + k)) (L 3 a) = 30 + a := (if_neg hqa).trans hra
  have hcl := nI_clamp (show b < 2 ^ 31 by omega)
  have h8 := cb.1
  generalize hρ : rl ρ q (100 + (8 * a + k)) = ρ' at *
  have hz : ∀ p, ρ' p ≠ 30 + a → ∀ t' j, (jm_set h 100 k (L 3 a) (.ref q)).2 t' j p = h.2 t' j p := by
    intro p hp t' j
    show (if t' = 100 ∧ j = k ∧ p = L 3 a then Value.ref q else h.2 t' j p) = _
    rw [if_neg]
    rintro ⟨-, -, rfl⟩
    exact hp hra'
  have hz' : ∀ p, h.1 p ≠ none → ρ' p = 0 → (jm_set h 100 k (L 3 a) (.ref q)).1 p = h.1 p ∧ ρ' p = ρ' p ∧ ∀ t' j, (jm_set h 100 k (L 3 a) (.ref q)).2 t' j p = h.2 t' j p := fun p _ h2 => ⟨rfl, rfl, hz p (by omega)⟩
  have e8 : ∀ i, i / 8 < sz 1 0 → i % 8 < lu sz 4 a (k + 1) 4 (i / 8) → i ≠ 8 * a + k → i / 8 < sz 1 0 ∧ i % 8 < sz 4 (i / 8) := by
    intro i i1 i2 i3
    refine ⟨i1, ?_⟩
    by_cases e : i / 8 = a
    · rw [e, lu_eq] at i2
      rw [e, hk4]
      omega
    · rw [lu_ne e] at i2
      exact i2
  have hB : cB (lu sz 4 a (k + 1)) := by
    refine ⟨cb.1, cb.2.1, cb.2.2.1, fun c => ?_⟩
    by_cases e : c = a
    · rw [e, lu_eq]; omega
    · rw [lu_ne e]; exact cb.2.2.2 c
  refine ⟨⟨?_, c2, ?_, ?_, ?_, hB⟩, ?_⟩
  · intro r i hl
    unfold cV at hl
    split at hl
    · have hl0 : i = 0 := hl
      obtain ⟨d1, d2, d3⟩ := c1 1 i hl
      exact ⟨d1, d2, (hz (cA x L 1 i) (by rw [d2]; simp only [cR]; omega) _ _).trans d3⟩
    · have hl0 : i < sz 1 0 := hl
      obtain ⟨d1, d2, d3⟩ := c1 3 i hl
      exact ⟨d1, d2, (hz (cA x L 3 i) (by rw [d2]; simp only [cR]; omega) _ _).trans d3⟩
    · have hl0 : i < 4 * sz 1 0 := hl
      obtain ⟨d1, d2, d3⟩ := c1 4 i hl
      exact ⟨d1, d2, (hz (cA x L 4 i) (by rw [d2]; simp only [cR]; omega) _ _).trans d3⟩
    · have hl0 : i = 0 := hl
      obtain ⟨d1, d2, d3⟩ := c1 5 i hl
      exact ⟨d1, d2, (hz (cA x L 5 i) (by rw [d2]; simp only [cR]; omega) _ _).trans d3⟩
    · have hl0 : i < sz 1 0 := hl
      obtain ⟨d1, d2, d3⟩ := c1 9 i hl
      exact ⟨d1, d2, (hz (cA x L 9 i) (by rw [d2]; simp only [cR]; omega) _ _).trans d3⟩
    · have hl0 : i < sz 1 0 := hl
      obtain ⟨d1, d2, d3⟩ := c1 10 i hl
      exact ⟨d1, d2, (hz (cA x L 10 i) (by rw [d2]; simp only [cR]; omega) _ _).trans d3⟩
    · have hl0 : i < 8 ∧ sz 5 i = 1 := hl
      obtain ⟨d1, d2, d3⟩ := c1 11 i hl
      exact ⟨d1, d2, (hz (cA x L 11 i) (by rw [d2]; simp only [cR]; omega) _ _).trans d3⟩
    · have hl0 : i < 8 ∧ sz 5 i = 1 := hl
      obtain ⟨d1, d2, d3⟩ := c1 12 i hl
      exact ⟨d1, d2, (hz (cA x L 12 i) (by rw [d2]; simp only [cR]; omega) _ _).trans d3⟩
    · have hl0 : i < sz 1 0 := hl
      obtain ⟨d1, d2, d3⟩ := c1 15 i hl
      exact ⟨d1, d2, (hz (cA x L 15 i) (by rw [d2]; simp only [cR]; omega) _ _).trans d3⟩
    · have hl0 : i < sz 1 0 := hl
      obtain ⟨d1, d2, d3⟩ := c1 16 i hl
      exact ⟨d1, d2, (hz (cA x L 16 i) (by rw [d2]; simp only [cR]; omega) _ _).trans d3⟩
    · have hl0 : i < sz 1 0 := hl
      obtain ⟨d1, d2, d3⟩ := c1 17 i hl
      exact ⟨d1, d2, (hz (cA x L 17 i) (by rw [d2]; simp only [cR]; omega) _ _).trans d3⟩
    · have hl0 : i < sz 1 0 := hl
      obtain ⟨d1, d2, d3⟩ := c1 18 i hl
      exact ⟨d1, d2, (hz (cA x L 18 i) (by rw [d2]; simp only [cR]; omega) _ _).trans d3⟩
    · have hl0 : i < sz 1 0 := hl
      obtain ⟨d1, d2, d3⟩ := c1 22 i hl
      exact ⟨d1, d2, (hz (cA x L 22 i) (by rw [d2]; simp only [cR]; omega) _ _).trans d3⟩
    · have hl0 : i < sz 1 0 := hl
      obtain ⟨d1, d2, d3⟩ := c1 23 i hl
      exact ⟨d1, d2, (hz (cA x L 23 i) (by rw [d2]; simp only [cR]; omega) _ _).trans d3⟩
    · have hl0 : i = 0 := hl
      obtain ⟨d1, d2, d3⟩ := c1 27 i hl
      exact ⟨d1, d2, (hz (cA x L 27 i) (by rw [d2]; simp only [cR]; omega) _ _).trans d3⟩
    · have hl0 : i < sz 1 0 := hl
      obtain ⟨d1, d2, d3⟩ := c1 28 i hl
      exact ⟨d1, d2, (hz (cA x L 28 i) (by rw [d2]; simp only [cR]; omega) _ _).trans d3⟩
    · have hl0 : i < 8 := hl
      obtain ⟨d1, d2, d3⟩ := c1 32 i hl
      exact ⟨d1, d2, (hz (cA x L 32 i) (by rw [d2]; simp only [cR]; omega) _ _).trans d3⟩
    · have hl0 : i = 0 := hl
      obtain ⟨d1, d2, d3⟩ := c1 34 i hl
      exact ⟨d1, d2, (hz (cA x L 34 i) (by rw [d2]; simp only [cR]; omega) _ _).trans d3⟩
    · have hl0 : i < sz 1 0 := hl
      obtain ⟨d1, d2, d3⟩ := c1 50 i hl
      exact ⟨d1, d2, (hz (cA x L 50 i) (by rw [d2]; simp only [cR]; omega) _ _).trans d3⟩
    · have hl0 : i < sz 1 0 := hl
      obtain ⟨d1, d2, d3⟩ := c1 51 i hl
      exact ⟨d1, d2, (hz (cA x L 51 i) (by rw [d2]; simp only [cR]; omega) _ _).trans d3⟩
    · have hl0 : i < sz 1 0 := hl
      obtain ⟨d1, d2, d3⟩ := c1 52 i hl
      exact ⟨d1, d2, (hz (cA x L 52 i) (by rw [d2]; simp only [cR]; omega) _ _).trans d3⟩
    · by_cases e : i = 8 * a + k
      · subst e
        show h.1 (lu L 4 (8 * a + k) q 4 (8 * a + k)) = _ ∧ ρ' (lu L 4 (8 * a + k) q 4 (8 * a + k)) = _ ∧ (jm_set h 100 k (L 3 a) (.ref q)).2 3 0 (lu L 4 (8 * a + k) q 4 (8 * a + k)) = _
        rw [lu_eq]
        exact ⟨hk, er, (hz q (by omega) 3 0).trans (f0.trans (by show Value.ref (L 1 b) = .ref (L 1 ((mu (mu (mu C 53 (8 * a + k) (nI b)) 54 (8 * a + k) 0) 55 (8 * a + k) (-1)) 53 (8 * a + k)).toNatClampNeg); rw [show (mu (mu (mu C 53 (8 * a + k) (nI b)) 54 (8 * a + k) 0) 55 (8 * a + k) (-1)) 53 (8 * a + k) = nI b by simp [mu], hcl]))⟩
      · obtain ⟨d1, d2, d3⟩ := c1 53 i (e8 i hl.1 hl.2 e)
        have d2' : ρ' (L 4 i) = 100 + i := d2
        show h.1 (lu L 4 (8 * a + k) q 4 i) = _ ∧ ρ' (lu L 4 (8 * a + k) q 4 i) = _ ∧ (jm_set h 100 k (L 3 a) (.ref q)).2 3 0 (lu L 4 (8 * a + k) q 4 i) = _
        rw [lu_ne e]
        refine ⟨d1, d2, (hz (L 4 i) (by omega) 3 0).trans (d3.trans ?_)⟩
        show cE Γ L 53 i (C 53 i) = cE Γ L 53 i ((mu (mu (mu C 53 (8 * a + k) (nI b)) 54 (8 * a + k) 0) 55 (8 * a + k) (-1)) 53 i)
        rw [show (mu (mu (mu C 53 (8 * a + k) (nI b)) 54 (8 * a + k) 0) 55 (8 * a + k) (-1)) 53 i = C 53 i by simp [mu, e]]
    · by_cases e : i = 8 * a + k
      · subst e
        show h.1 (lu L 4 (8 * a + k) q 4 (8 * a + k)) = _ ∧ ρ' (lu L 4 (8 * a + k) q 4 (8 * a + k)) = _ ∧ (jm_set h 100 k (L 3 a) (.ref q)).2 3 1 (lu L 4 (8 * a + k) q 4 (8 * a + k)) = _
        rw [lu_eq]
        exact ⟨hk, er, (hz q (by omega) 3 1).trans (f1.trans (by show Value.int 0 = .int ((mu (mu (mu C 53 (8 * a + k) (nI b)) 54 (8 * a + k) 0) 55 (8 * a + k) (-1)) 54 (8 * a + k)); simp [mu]))⟩
      · obtain ⟨d1, d2, d3⟩ := c1 54 i (e8 i hl.1 hl.2 e)
        have d2' : ρ' (L 4 i) = 100 + i := d2
        show h.1 (lu L 4 (8 * a + k) q 4 i) = _ ∧ ρ' (lu L 4 (8 * a + k) q 4 i) = _ ∧ (jm_set h 100 k (L 3 a) (.ref q)).2 3 1 (lu L 4 (8 * a + k) q 4 i) = _
        rw [lu_ne e]
        refine ⟨d1, d2, (hz (L 4 i) (by omega) 3 1).trans (d3.trans ?_)⟩
        show cE Γ L 54 i (C 54 i) = cE Γ L 54 i ((mu (mu (mu C 53 (8 * a + k) (nI b)) 54 (8 * a + k) 0) 55 (8 * a + k) (-1)) 54 i)
        rw [show (mu (mu (mu C 53 (8 * a + k) (nI b)) 54 (8 * a + k) 0) 55 (8 * a + k) (-1)) 54 i = C 54 i by simp [mu, e]]
    · have hl0 : i = 0 := hl
      obtain ⟨d1, d2, d3⟩ := c1 60 i hl
      exact ⟨d1, d2, (hz (cA x L 60 i) (by rw [d2]; simp only [cR]; omega) _ _).trans d3⟩
    · have hl0 : i < sz 6 0 := hl
      obtain ⟨d1, d2, d3⟩ := c1 62 i hl
      exact ⟨d1, d2, (hz (cA x L 62 i) (by rw [d2]; simp only [cR]; omega) _ _).trans d3⟩
    · have hl0 : i < sz 6 0 := hl
      obtain ⟨d1, d2, d3⟩ := c1 63 i hl
      exact ⟨d1, d2, (hz (cA x L 63 i) (by rw [d2]; simp only [cR]; omega) _ _).trans d3⟩
    · have hl0 : i < 16 * sz 6 0 := hl
      obtain ⟨d1, d2, d3⟩ := c1 64 i hl
      exact ⟨d1, d2, (hz (cA x L 64 i) (by rw [d2]; simp only [cR]; omega) _ _).trans d3⟩
    · have hl0 : i < 8 ∧ sz 5 i = 1 := hl
      obtain ⟨d1, d2, d3⟩ := c1 65 i hl
      exact ⟨d1, d2, (hz (cA x L 65 i) (by rw [d2]; simp only [cR]; omega) _ _).trans d3⟩
    · have hl0 : i < sz 1 0 := hl
      obtain ⟨d1, d2, d3⟩ := c1 70 i hl
      exact ⟨d1, d2, (hz (cA x L 70 i) (by rw [d2]; simp only [cR]; omega) _ _).trans d3⟩
    · have hl0 : i < sz 1 0 := hl
      obtain ⟨d1, d2, d3⟩ := c1 71 i hl
      exact ⟨d1, d2, (hz (cA x L 71 i) (by rw [d2]; simp only [cR]; omega) _ _).trans d3⟩
    · have hl0 : i < sz 1 0 := hl
      obtain ⟨d1, d2, d3⟩ := c1 72 i hl
      exact ⟨d1, d2, (hz (cA x L 72 i) (by rw [d2]; simp only [cR]; omega) _ _).trans d3⟩
    · have hl0 : i < sz 1 0 := hl
      obtain ⟨d1, d2, d3⟩ := c1 73 i hl
      exact ⟨d1, d2, (hz (cA x L 73 i) (by rw [d2]; simp only [cR]; omega) _ _).trans d3⟩
    · by_cases e : i = 8 * a + k
      · subst e
        have e1 : (8 * a + k) / 8 = a := by omega
        have e2 : (8 * a + k) % 8 = k := by omega
        refine ⟨?_, ?_, ?_⟩
        · show h.1 (L 3 ((8 * a + k) / 8)) = _
          rw [e1]
          exact (c2.2.2.2.2.2.2 a ha).1
        · show ρ' (L 3 ((8 * a + k) / 8)) = 30 + (8 * a + k) / 8
          rw [e1]
          exact hra'
        · show (if (100 : Nat) = 100 ∧ (8 * a + k) % 8 = k ∧ L 3 ((8 * a + k) / 8) = L 3 a then Value.ref q else _) = .ref (lu L 4 (8 * a + k) q 4 (8 * a + k))
          rw [lu_eq, if_pos ⟨rfl, e2, by rw [e1]⟩]
      · obtain ⟨d1, d2, d3⟩ := c1 74 i (e8 i hl.1 hl.2 e)
        refine ⟨d1, d2, ?_⟩
        show (if (100 : Nat) = 100 ∧ i % 8 = k ∧ L 3 (i / 8) = L 3 a then Value.ref q else h.2 100 (i % 8) (L 3 (i / 8))) = .ref (lu L 4 (8 * a + k) q 4 i)
        rw [lu_ne e, if_neg]
        · exact d3
        · rintro ⟨-, z1, z2⟩
          have d2' : ρ' (L 3 (i / 8)) = 30 + i / 8 := d2
          rw [z2, hra'] at d2'
          omega
    · have hl0 : i < sz 6 0 := hl
      obtain ⟨d1, d2, d3⟩ := c1 75 i hl
      exact ⟨d1, d2, (hz (cA x L 75 i) (by rw [d2]; simp only [cR]; omega) _ _).trans d3⟩
    · have hl0 : i < sz 6 0 := hl
      obtain ⟨d1, d2, d3⟩ := c1 76 i hl
      exact ⟨d1, d2, (hz (cA x L 76 i) (by rw [d2]; simp only [cR]; omega) _ _).trans d3⟩
    · have hl0 : i < sz 8 0 := hl
      obtain ⟨d1, d2, d3⟩ := c1 77 i hl
      exact ⟨d1, d2, (hz (cA x L 77 i) (by rw [d2]; simp only [cR]; omega) _ _).trans d3⟩
    · have hl0 : i = 0 := hl
      obtain ⟨d1, d2, d3⟩ := c1 78 i hl
      exact ⟨d1, d2, (hz (cA x L 78 i) (by rw [d2]; simp only [cR]; omega) _ _).trans d3⟩
    · have hl0 : i = 0 := hl
      obtain ⟨d1, d2, d3⟩ := c1 79 i hl
      exact ⟨d1, d2, (hz (cA x L 79 i) (by rw [d2]; simp only [cR]; omega) _ _).trans d3⟩
    · have hl0 : i = 0 := hl
      obtain ⟨d1, d2, d3⟩ := c1 80 i hl
      exact ⟨d1, d2, (hz (cA x L 80 i) (by rw [d2]; simp only [cR]; omega) _ _).trans d3⟩
    · have hl0 : i = 0 := hl
      obtain ⟨d1, d2, d3⟩ := c1 81 i hl
      exact ⟨d1, d2, (hz (cA x L 81 i) (by rw [d2]; simp only [cR]; omega) _ _).trans d3⟩
    · exact hl.elim
  · intro b' hb'
    have e1 : ρ' (L 1 b') = 10 + b' := (c1 3 b' hb').2.1
    have hb'' : b' < sz 1 0 := hb'
    show TB (jm_set h 100 k (L 3 a) (.ref q)) ρ' ((jm_set h 100 k (L 3 a) (.ref q)).2 1 14 (L 1 b')) (C 57 b') (fun i => C 58 (256 * b' + i)) ∧ TB (jm_set h 100 k (L 3 a) (.ref q)) ρ' ((jm_set h 100 k (L 3 a) (.ref q)).2 1 16 (L 1 b')) (C 59 b') (fun i => C 66 (256 * b' + i))
    rw [hz (L 1 b') (by omega), hz (L 1 b') (by omega)]
    exact ⟨(c3 b' hb').1.fr hz', (c3 b' hb').2.fr hz'⟩
  · intro i hi
    by_cases e : i = 8 * a + k
    · subst e
      show TB _ ρ' ((jm_set h 100 k (L 3 a) (.ref q)).2 3 2 (lu L 4 (8 * a + k) q 4 (8 * a + k))) _ _
      rw [lu_eq, hz q (by omega), f2]
      exact Or.inl ⟨by simp [mu], rfl⟩
    · have hi' := e8 i hi.1 hi.2 e
      have e1 : ρ' (L 4 i) = 100 + i := (c1 53 i hi').2.1
      have hq := c4 i hi'
      show TB _ ρ' ((jm_set h 100 k (L 3 a) (.ref q)).2 3 2 (lu L 4 (8 * a + k) q 4 i)) _ _
      rw [lu_ne e, hz (L 4 i) (by omega), show (mu (mu (mu C 53 (8 * a + k) (nI b)) 54 (8 * a + k) 0) 55 (8 * a + k) (-1)) 55 i = C 55 i by simp [mu, e]]
      exact hq.fr hz'
  · intro k' hk'
    exact (c5 k' hk').fr hz'
  · intro p hp
    obtain ⟨f1', f2', f3'⟩ := (hρ ▸ xt_rl (a := 100 + (8 * a + k)) hf hq0 : xt ρ0 h0 ρ' h) p hp
    exact ⟨f1', f2', fun z t' j => (hz p (by rcases z with z | z <;> omega) t' j).trans (f3' z t' j)⟩
end
