/-! Numbers laid on the stack as literals; entry of methods of classes that have natives -/
section
variable {Γ : jm_G} {μ : jm_Mt} {d rc rs : Nat} {Q : jm_O → jm_H → Prop} {pc : Nat} {ls : List (Option Value)} {st : List Value} {h : jm_H}
theorem jm_iconstL {n : Int} {v : Int32} (hd : decode μ.2.1 pc = .ok (.iconst n, 1)) (hv : Int32.ofInt n = v) (k : jm_W Γ μ d rc rs Q (pc + 1) ls (.int v :: st) h) : jm_W Γ μ d rc rs Q pc ls st h := by
  subst hv
  exact jm_iconst hd k
theorem jm_bipushL {n : Int} {v : Int32} (hd : decode μ.2.1 pc = .ok (.bipush n, 2)) (hv : (Int8.ofInt n).toInt32 = v) (k : jm_W Γ μ d rc rs Q (pc + 2) ls (.int v :: st) h) : jm_W Γ μ d rc rs Q pc ls st h := by
  subst hv
  exact jm_bipush hd k
theorem jm_sipushL {n : Int} {v : Int32} (hd : decode μ.2.1 pc = .ok (.sipush n, 3)) (hv : (Int16.ofInt n).toInt32 = v) (k : jm_W Γ μ d rc rs Q (pc + 3) ls (.int v :: st) h) : jm_W Γ μ d rc rs Q pc ls st h := by
  subst hv
  exact jm_sipush hd k
theorem jm_iincL {i : Nat} {n : Int} {x v : Int32} (hd : decode μ.2.1 pc = .ok (.iinc i n, 3)) (hx : ls[i]? = some (some (.int x))) (hv : x + Int32.ofInt n = v) (k : jm_W Γ μ d rc rs Q (pc + 3) (ls.set i (some (.int v))) st h) : jm_W Γ μ d rc rs Q pc ls st h := by
  subst hv
  exact jm_iinc hd hx k
theorem jm_entryF {av : List Value} {mc ms : Nat} (hy : plainFor μ.1 = true) (hav : ∀ v ∈ av, v.category = 1) (hlen : av.length ≤ μ.2.2.1)
    (k : jm_W Γ μ d mc ms Q 0 (av.map some ++ List.replicate (μ.2.2.1 - av.length) none) [] h) : jm_M Γ μ d av h mc ms Q := by
  refine MetFree.of_bodySF (code := μ.2.1) (maxLocals := μ.2.2.1) (ret := μ.2.2.2.1) hy ?_ ?_
  · intro args s m hp hn
    obtain ⟨meth, c, h1, h2, h3, h4, h5, h6, -, -⟩ := jm_cw_spec hn (atoms_spec (ws := jm_cw μ :: jm_ws) hp _ List.mem_cons_self)
    exact ⟨meth, c, h1, h2, h3, h4, h5, h6⟩
  · intro p e s m args below meth c s₁ B hml hP _
    obtain ⟨rfl, hC, hR⟩ := hP
    have hts := atoms_spec (ws := jm_cw μ :: jm_ws) B.pre
    have hown : s.vm.findClass μ.1.cls = some m.cls := findClass_of_methodNamed B.named
    obtain ⟨meth', c', h1, h2, -, -, -, -, h7, -⟩ := jm_cw_spec B.named (hts _ List.mem_cons_self)
    cases B.method.symm.trans h1
    cases (Stand.of_body B).code.symm.trans h2
    have hE : jm_E Γ μ d p (jm_rm d mc ms) s m av.toArray meth c :=
      ⟨B.exec, B.bytes, B.returns, hml, hown, fun w hw => hts w (List.mem_cons_of_mem _ hw), hC, B.notSynchronized, (name_of_methodNamed B.named B.method).1, h7, Nat.le_refl _, Nat.le_refl _, hR.1, hR.2.1, hR.2.2.1⟩
    have hsl := jm_sl av hav
    have hlv := lv_entry av (n := μ.2.2.1) (by rw [hsl, List.length_map]; exact hlen)
    have hw := k p e (jm_rm d mc ms) s m av.toArray below meth c s.heap [] 0 0 ((lg_sl av ++ List.replicate (μ.2.2.1 - (lg_sl av).length) Slot.unset).toArray) hE hR (fun q hq => by cases hq) (by show 0 + mc ≤ mc; omega) (by show 0 + ms ≤ ms; omega)
      ⟨by rw [hlv.1]; simp; omega, hlv.2.1, fun i v hi => by
        have hi' : i < av.length := by
          by_cases g : i < av.length
          · exact g
          · rw [List.getElem?_append_right (by simp; omega)] at hi
            have := List.mem_of_getElem? hi
            rw [List.mem_replicate] at this
            cases this.2
        rw [List.getElem?_append_left (by simpa using hi'), List.getElem?_map, List.getElem?_eq_getElem hi'] at hi
        have hv : av[i] = v := by simpa using hi
        refine ⟨?_, hav v (hv ▸ List.getElem_mem hi')⟩
        rw [hsl]
        simp [List.getElem?_append_left, hi', hv]⟩ (by simp; omega)
    rw [← lg_entry_eq] at hw
    have hh0 : s₁.heap = s.heap := by rw [B.state]; rfl
    obtain ⟨t, a1, o, b1, b2, b3⟩ := hw s₁ hh0 (Stand.of_body B)
    exact ⟨t, o, a1, b1, b2, b3⟩
end
