/-! LINKS of the pools. Written by wip/whole/gen/meths.py -/
def jm_FG (own : String) (idx ci j : Nat) (ty : FieldType) : Prop :=
  ∃ (C : String) (T : u_T) (N : Nat), jm_cl[ci]? = some (C, T, N) ∧ j < N ∧ parseFieldDescriptor (T j).2.2.1 = some ty ∧ Cond.fieldLink own idx (T j).1 (T j).2.1 (T j).2.2.1 ∈ jm_ws
theorem jm_getG {Γ : jm_G} {μ : jm_Mt} {d rc rs : Nat} {Q : jm_O → jm_H → Prop} {pc : Nat} {ls : List (Option Value)} {st : List Value} {h : jm_H} {idx ci j n a : Nat} {ty : FieldType} (hd : decode μ.2.1 pc = .ok (.getfield idx, 3)) (hf : jm_FG μ.1.cls idx ci j ty) (ha : h.1 a = some (ci, n))
    (k : jm_W Γ μ d rc rs Q (pc + 3) ls (h.2 ci j a :: st) h) : jm_W Γ μ d rc rs Q pc ls (.ref a :: st) h := by
  intro p e R s m args below meth c H locs cells slots arr E hR hlo hc hs hl hn
  obtain ⟨C, T, N, f1, f2, f4, f5⟩ := hf
  obtain ⟨hx, hb, hr, hml, hown, hts, hC, -⟩ := id E
  obtain ⟨hb0, r, g1, cell, g2, g3, g4, g5⟩ := (hR.2.2.2 a ci n ha).1 (jm_lt f1 jm_cl_len)
  cases Option.some.inj (g1.symm.trans f1)
  obtain ⟨hin, -, -⟩ := jm_clok ci C T N f1
  obtain ⟨hS, hfc, kC, hkC, hkind⟩ := hC.1.1 ci _ f1
  obtain ⟨cf, kf, fi, f, hi, hsl⟩ := hS j f2
  exact W.getf hx hb hown (hts _ f5) hi (u_facts hfc hkC (u_lays hts hin f2) hi).1 g2 (by rw [g4]; exact fun z => by cases z) (v := h.2 ci j a) (by rw [hsl]; exact g5 j f2) rfl rfl hd (k p e R s m args below meth c H locs cells slots arr E hR hlo hc hs hl hn)
theorem iw_obj : Cond.instanceMethod Lib.objectInit ∈ jm_ws := jm_in (List.mem_of_getElem? (i := 25) (by decide +kernel)) (by decide +kernel)
theorem cw_obj : Cond.code Lib.objectInit ⟨#[0xb1]⟩ 1 none ∈ jm_ws := jm_in (List.mem_of_getElem? (i := 26) (by decide +kernel)) (by decide +kernel)
theorem f_B_11 : jm_FL "BargainTree" 11 0 0 true (.array (.object "BargainTree$Agent")) := ⟨"BargainTree", jm_F0, 9, rfl, by decide, rfl, jm_yok0 0 (by decide), jm_in (List.mem_of_getElem? (i := 33) (by decide +kernel)) (by decide +kernel), fun _ => rfl⟩
theorem f_B_42 : jm_FL "BargainTree" 42 0 1 false .int := ⟨"BargainTree", jm_F0, 9, rfl, by decide, rfl, jm_yok0 1 (by decide), jm_in (List.mem_of_getElem? (i := 34) (by decide +kernel)) (by decide +kernel), fun h => nomatch h⟩
theorem f_B_17 : jm_FL "BargainTree" 17 0 2 true (.array (.object "BargainTree$Pair")) := ⟨"BargainTree", jm_F0, 9, rfl, by decide, rfl, jm_yok0 2 (by decide), jm_in (List.mem_of_getElem? (i := 35) (by decide +kernel)) (by decide +kernel), fun _ => rfl⟩
theorem f_B_74 : jm_FL "BargainTree" 74 0 3 false .int := ⟨"BargainTree", jm_F0, 9, rfl, by decide, rfl, jm_yok0 3 (by decide), jm_in (List.mem_of_getElem? (i := 36) (by decide +kernel)) (by decide +kernel), fun h => nomatch h⟩
theorem f_B_23 : jm_FL "BargainTree" 23 0 4 true (.array (.object "BargainTree$Letter")) := ⟨"BargainTree", jm_F0, 9, rfl, by decide, rfl, jm_yok0 4 (by decide), jm_in (List.mem_of_getElem? (i := 37) (by decide +kernel)) (by decide +kernel), fun _ => rfl⟩
theorem f_B_139 : jm_FL "BargainTree" 139 0 5 false .int := ⟨"BargainTree", jm_F0, 9, rfl, by decide, rfl, jm_yok0 5 (by decide), jm_in (List.mem_of_getElem? (i := 38) (by decide +kernel)) (by decide +kernel), fun h => nomatch h⟩
theorem f_B_27 : jm_FL "BargainTree" 27 0 6 true (.array .int) := ⟨"BargainTree", jm_F0, 9, rfl, by decide, rfl, jm_yok0 6 (by decide), jm_in (List.mem_of_getElem? (i := 39) (by decide +kernel)) (by decide +kernel), fun _ => rfl⟩
theorem f_B_31 : jm_FL "BargainTree" 31 0 7 false .boolean := ⟨"BargainTree", jm_F0, 9, rfl, by decide, rfl, jm_yok0 7 (by decide), jm_in (List.mem_of_getElem? (i := 40) (by decide +kernel)) (by decide +kernel), fun h => nomatch h⟩
theorem f_B_221 : jm_FL "BargainTree" 221 0 8 false .int := ⟨"BargainTree", jm_F0, 9, rfl, by decide, rfl, jm_yok0 8 (by decide), jm_in (List.mem_of_getElem? (i := 41) (by decide +kernel)) (by decide +kernel), fun h => nomatch h⟩
theorem f_B_189 : Cond.fieldLink "BargainTree" 189 jm_en (jm_enm 2) jm_ed ∈ jm_ws := jm_in (List.mem_of_getElem? (i := 115) (by decide +kernel)) (by decide +kernel)
theorem f_A_21 : Cond.fieldLink "BargainTree$Agent" 21 jm_en (jm_enm 0) jm_ed ∈ jm_ws := jm_in (List.mem_of_getElem? (i := 225) (by decide +kernel)) (by decide +kernel)
theorem f_A_37 : jm_FL "BargainTree$Agent" 37 1 0 true .int := ⟨"BargainTree$Agent", jm_F1, 18, rfl, by decide, rfl, jm_yok1 0 (by decide), jm_in (List.mem_of_getElem? (i := 227) (by decide +kernel)) (by decide +kernel), fun _ => rfl⟩
theorem f_Q_22 : jm_FG "BargainTree$Pair" 22 1 0 .int := ⟨"BargainTree$Agent", jm_F1, 18, rfl, by decide, jm_yok1 0 (by decide), jm_in (List.mem_of_getElem? (i := 228) (by decide +kernel)) (by decide +kernel)⟩
theorem f_B_294 : jm_FG "BargainTree" 294 1 0 .int := ⟨"BargainTree$Agent", jm_F1, 18, rfl, by decide, jm_yok1 0 (by decide), jm_in (List.mem_of_getElem? (i := 229) (by decide +kernel)) (by decide +kernel)⟩
theorem f_A_40 : jm_FL "BargainTree$Agent" 40 1 1 true .int := ⟨"BargainTree$Agent", jm_F1, 18, rfl, by decide, rfl, jm_yok1 1 (by decide), jm_in (List.mem_of_getElem? (i := 230) (by decide +kernel)) (by decide +kernel), fun _ => rfl⟩
theorem f_B_245 : jm_FG "BargainTree" 245 1 1 .int := ⟨"BargainTree$Agent", jm_F1, 18, rfl, by decide, jm_yok1 1 (by decide), jm_in (List.mem_of_getElem? (i := 231) (by decide +kernel)) (by decide +kernel)⟩
theorem f_A_9 : jm_FL "BargainTree$Agent" 9 1 2 true (.array .int) := ⟨"BargainTree$Agent", jm_F1, 18, rfl, by decide, rfl, jm_yok1 2 (by decide), jm_in (List.mem_of_getElem? (i := 232) (by decide +kernel)) (by decide +kernel), fun _ => rfl⟩
theorem f_B_66 : jm_FG "BargainTree" 66 1 2 (.array .int) := ⟨"BargainTree$Agent", jm_F1, 18, rfl, by decide, jm_yok1 2 (by decide), jm_in (List.mem_of_getElem? (i := 233) (by decide +kernel)) (by decide +kernel)⟩
theorem f_A_17 : jm_FL "BargainTree$Agent" 17 1 3 true (.array (.object "BargainTree$Child")) := ⟨"BargainTree$Agent", jm_F1, 18, rfl, by decide, rfl, jm_yok1 3 (by decide), jm_in (List.mem_of_getElem? (i := 234) (by decide +kernel)) (by decide +kernel), fun _ => rfl⟩
theorem f_B_350 : jm_FG "BargainTree" 350 1 3 (.array (.object "BargainTree$Child")) := ⟨"BargainTree$Agent", jm_F1, 18, rfl, by decide, jm_yok1 3 (by decide), jm_in (List.mem_of_getElem? (i := 235) (by decide +kernel)) (by decide +kernel)⟩
theorem f_A_62 : jm_FL "BargainTree$Agent" 62 1 4 false .int := ⟨"BargainTree$Agent", jm_F1, 18, rfl, by decide, rfl, jm_yok1 4 (by decide), jm_in (List.mem_of_getElem? (i := 236) (by decide +kernel)) (by decide +kernel), fun h => nomatch h⟩
theorem f_B_347 : jm_FL "BargainTree" 347 1 4 false .int := ⟨"BargainTree$Agent", jm_F1, 18, rfl, by decide, rfl, jm_yok1 4 (by decide), jm_in (List.mem_of_getElem? (i := 237) (by decide +kernel)) (by decide +kernel), fun h => nomatch h⟩
theorem f_B_93 : jm_FL "BargainTree" 93 1 5 false .int := ⟨"BargainTree$Agent", jm_F1, 18, rfl, by decide, rfl, jm_yok1 5 (by decide), jm_in (List.mem_of_getElem? (i := 238) (by decide +kernel)) (by decide +kernel), fun h => nomatch h⟩
theorem f_A_43 : jm_FL "BargainTree$Agent" 43 1 6 false (.object "BargainTree$Part") := ⟨"BargainTree$Agent", jm_F1, 18, rfl, by decide, rfl, jm_yok1 6 (by decide), jm_in (List.mem_of_getElem? (i := 239) (by decide +kernel)) (by decide +kernel), fun h => nomatch h⟩
theorem f_B_212 : jm_FL "BargainTree" 212 1 6 false (.object "BargainTree$Part") := ⟨"BargainTree$Agent", jm_F1, 18, rfl, by decide, rfl, jm_yok1 6 (by decide), jm_in (List.mem_of_getElem? (i := 240) (by decide +kernel)) (by decide +kernel), fun h => nomatch h⟩
theorem f_A_27 : jm_FL "BargainTree$Agent" 27 1 7 false (.object "BargainTree$Stage") := ⟨"BargainTree$Agent", jm_F1, 18, rfl, by decide, rfl, jm_yok1 7 (by decide), jm_in (List.mem_of_getElem? (i := 241) (by decide +kernel)) (by decide +kernel), fun h => nomatch h⟩
theorem f_B_176 : jm_FL "BargainTree" 176 1 7 false (.object "BargainTree$Stage") := ⟨"BargainTree$Agent", jm_F1, 18, rfl, by decide, rfl, jm_yok1 7 (by decide), jm_in (List.mem_of_getElem? (i := 242) (by decide +kernel)) (by decide +kernel), fun h => nomatch h⟩
theorem f_B_118 : jm_FL "BargainTree" 118 1 8 false .int := ⟨"BargainTree$Agent", jm_F1, 18, rfl, by decide, rfl, jm_yok1 8 (by decide), jm_in (List.mem_of_getElem? (i := 243) (by decide +kernel)) (by decide +kernel), fun h => nomatch h⟩
theorem f_Q_27 : jm_FL "BargainTree$Pair" 27 1 9 false .int := ⟨"BargainTree$Agent", jm_F1, 18, rfl, by decide, rfl, jm_yok1 9 (by decide), jm_in (List.mem_of_getElem? (i := 244) (by decide +kernel)) (by decide +kernel), fun h => nomatch h⟩
theorem f_A_74 : jm_FL "BargainTree$Agent" 74 1 9 false .int := ⟨"BargainTree$Agent", jm_F1, 18, rfl, by decide, rfl, jm_yok1 9 (by decide), jm_in (List.mem_of_getElem? (i := 245) (by decide +kernel)) (by decide +kernel), fun h => nomatch h⟩
theorem f_B_224 : jm_FL "BargainTree" 224 1 9 false .int := ⟨"BargainTree$Agent", jm_F1, 18, rfl, by decide, rfl, jm_yok1 9 (by decide), jm_in (List.mem_of_getElem? (i := 246) (by decide +kernel)) (by decide +kernel), fun h => nomatch h⟩
theorem f_A_30 : jm_FL "BargainTree$Agent" 30 1 10 false .int := ⟨"BargainTree$Agent", jm_F1, 18, rfl, by decide, rfl, jm_yok1 10 (by decide), jm_in (List.mem_of_getElem? (i := 247) (by decide +kernel)) (by decide +kernel), fun h => nomatch h⟩
theorem f_B_239 : jm_FL "BargainTree" 239 1 10 false .int := ⟨"BargainTree$Agent", jm_F1, 18, rfl, by decide, rfl, jm_yok1 10 (by decide), jm_in (List.mem_of_getElem? (i := 248) (by decide +kernel)) (by decide +kernel), fun h => nomatch h⟩
theorem f_A_34 : jm_FL "BargainTree$Agent" 34 1 11 false .int := ⟨"BargainTree$Agent", jm_F1, 18, rfl, by decide, rfl, jm_yok1 11 (by decide), jm_in (List.mem_of_getElem? (i := 249) (by decide +kernel)) (by decide +kernel), fun h => nomatch h⟩
theorem f_B_297 : jm_FL "BargainTree" 297 1 11 false .int := ⟨"BargainTree$Agent", jm_F1, 18, rfl, by decide, rfl, jm_yok1 11 (by decide), jm_in (List.mem_of_getElem? (i := 250) (by decide +kernel)) (by decide +kernel), fun h => nomatch h⟩
theorem f_A_77 : jm_FL "BargainTree$Agent" 77 1 12 false .int := ⟨"BargainTree$Agent", jm_F1, 18, rfl, by decide, rfl, jm_yok1 12 (by decide), jm_in (List.mem_of_getElem? (i := 251) (by decide +kernel)) (by decide +kernel), fun h => nomatch h⟩
theorem f_B_242 : jm_FL "BargainTree" 242 1 12 false .int := ⟨"BargainTree$Agent", jm_F1, 18, rfl, by decide, rfl, jm_yok1 12 (by decide), jm_in (List.mem_of_getElem? (i := 252) (by decide +kernel)) (by decide +kernel), fun h => nomatch h⟩
theorem f_B_230 : jm_FL "BargainTree" 230 1 13 false .boolean := ⟨"BargainTree$Agent", jm_F1, 18, rfl, by decide, rfl, jm_yok1 13 (by decide), jm_in (List.mem_of_getElem? (i := 253) (by decide +kernel)) (by decide +kernel), fun h => nomatch h⟩
theorem f_B_195 : jm_FL "BargainTree" 195 1 14 false (.array .int) := ⟨"BargainTree$Agent", jm_F1, 18, rfl, by decide, rfl, jm_yok1 14 (by decide), jm_in (List.mem_of_getElem? (i := 254) (by decide +kernel)) (by decide +kernel), fun h => nomatch h⟩
theorem f_B_327 : jm_FL "BargainTree" 327 1 15 false .int := ⟨"BargainTree$Agent", jm_F1, 18, rfl, by decide, rfl, jm_yok1 15 (by decide), jm_in (List.mem_of_getElem? (i := 255) (by decide +kernel)) (by decide +kernel), fun h => nomatch h⟩
theorem f_A_53 : jm_FL "BargainTree$Agent" 53 1 16 false (.array .int) := ⟨"BargainTree$Agent", jm_F1, 18, rfl, by decide, rfl, jm_yok1 16 (by decide), jm_in (List.mem_of_getElem? (i := 256) (by decide +kernel)) (by decide +kernel), fun h => nomatch h⟩
theorem f_B_201 : jm_FL "BargainTree" 201 1 16 false (.array .int) := ⟨"BargainTree$Agent", jm_F1, 18, rfl, by decide, rfl, jm_yok1 16 (by decide), jm_in (List.mem_of_getElem? (i := 257) (by decide +kernel)) (by decide +kernel), fun h => nomatch h⟩
theorem f_A_56 : jm_FL "BargainTree$Agent" 56 1 17 false .int := ⟨"BargainTree$Agent", jm_F1, 18, rfl, by decide, rfl, jm_yok1 17 (by decide), jm_in (List.mem_of_getElem? (i := 258) (by decide +kernel)) (by decide +kernel), fun h => nomatch h⟩
theorem f_B_281 : jm_FL "BargainTree" 281 1 17 false .int := ⟨"BargainTree$Agent", jm_F1, 18, rfl, by decide, rfl, jm_yok1 17 (by decide), jm_in (List.mem_of_getElem? (i := 259) (by decide +kernel)) (by decide +kernel), fun h => nomatch h⟩
theorem f_Q_15 : jm_FL "BargainTree$Pair" 15 4 0 true .int := ⟨"BargainTree$Pair", jm_F4, 3, rfl, by decide, rfl, jm_yok4 0 (by decide), jm_in (List.mem_of_getElem? (i := 337) (by decide +kernel)) (by decide +kernel), fun _ => rfl⟩
theorem f_B_248 : jm_FG "BargainTree" 248 4 0 .int := ⟨"BargainTree$Pair", jm_F4, 3, rfl, by decide, jm_yok4 0 (by decide), jm_in (List.mem_of_getElem? (i := 338) (by decide +kernel)) (by decide +kernel)⟩
theorem f_Q_19 : jm_FL "BargainTree$Pair" 19 4 1 true .int := ⟨"BargainTree$Pair", jm_F4, 3, rfl, by decide, rfl, jm_yok4 1 (by decide), jm_in (List.mem_of_getElem? (i := 339) (by decide +kernel)) (by decide +kernel), fun _ => rfl⟩
theorem f_B_251 : jm_FG "BargainTree" 251 4 1 .int := ⟨"BargainTree$Pair", jm_F4, 3, rfl, by decide, jm_yok4 1 (by decide), jm_in (List.mem_of_getElem? (i := 340) (by decide +kernel)) (by decide +kernel)⟩
theorem f_Q_9 : jm_FL "BargainTree$Pair" 9 4 2 true (.array .int) := ⟨"BargainTree$Pair", jm_F4, 3, rfl, by decide, rfl, jm_yok4 2 (by decide), jm_in (List.mem_of_getElem? (i := 341) (by decide +kernel)) (by decide +kernel), fun _ => rfl⟩
theorem f_B_102 : jm_FG "BargainTree" 102 4 2 (.array .int) := ⟨"BargainTree$Pair", jm_F4, 3, rfl, by decide, jm_yok4 2 (by decide), jm_in (List.mem_of_getElem? (i := 342) (by decide +kernel)) (by decide +kernel)⟩
theorem f_P_15 : jm_FL "BargainTree$Part" 15 2 0 true (.object "BargainTree$Agent") := ⟨"BargainTree$Part", jm_F2, 3, rfl, by decide, rfl, jm_yok2 0 (by decide), jm_in (List.mem_of_getElem? (i := 401) (by decide +kernel)) (by decide +kernel), fun _ => rfl⟩
theorem f_A_47 : jm_FG "BargainTree$Agent" 47 2 0 (.object "BargainTree$Agent") := ⟨"BargainTree$Part", jm_F2, 3, rfl, by decide, jm_yok2 0 (by decide), jm_in (List.mem_of_getElem? (i := 402) (by decide +kernel)) (by decide +kernel)⟩
theorem f_P_9 : jm_FL "BargainTree$Part" 9 2 1 false .int := ⟨"BargainTree$Part", jm_F2, 3, rfl, by decide, rfl, jm_yok2 1 (by decide), jm_in (List.mem_of_getElem? (i := 403) (by decide +kernel)) (by decide +kernel), fun h => nomatch h⟩
theorem f_A_59 : jm_FL "BargainTree$Agent" 59 2 1 false .int := ⟨"BargainTree$Part", jm_F2, 3, rfl, by decide, rfl, jm_yok2 1 (by decide), jm_in (List.mem_of_getElem? (i := 404) (by decide +kernel)) (by decide +kernel), fun h => nomatch h⟩
theorem f_B_216 : jm_FL "BargainTree" 216 2 1 false .int := ⟨"BargainTree$Part", jm_F2, 3, rfl, by decide, rfl, jm_yok2 1 (by decide), jm_in (List.mem_of_getElem? (i := 405) (by decide +kernel)) (by decide +kernel), fun h => nomatch h⟩
theorem f_P_19 : jm_FL "BargainTree$Part" 19 2 2 false .int := ⟨"BargainTree$Part", jm_F2, 3, rfl, by decide, rfl, jm_yok2 2 (by decide), jm_in (List.mem_of_getElem? (i := 406) (by decide +kernel)) (by decide +kernel), fun h => nomatch h⟩
theorem f_B_368 : jm_FL "BargainTree" 368 2 2 false .int := ⟨"BargainTree$Part", jm_F2, 3, rfl, by decide, rfl, jm_yok2 2 (by decide), jm_in (List.mem_of_getElem? (i := 407) (by decide +kernel)) (by decide +kernel), fun h => nomatch h⟩
theorem f_C_7 : jm_FL "BargainTree$Child" 7 3 0 true (.object "BargainTree$Agent") := ⟨"BargainTree$Child", jm_F3, 3, rfl, by decide, rfl, jm_yok3 0 (by decide), jm_in (List.mem_of_getElem? (i := 432) (by decide +kernel)) (by decide +kernel), fun _ => rfl⟩
theorem f_A_68 : jm_FG "BargainTree$Agent" 68 3 0 (.object "BargainTree$Agent") := ⟨"BargainTree$Child", jm_F3, 3, rfl, by decide, jm_yok3 0 (by decide), jm_in (List.mem_of_getElem? (i := 433) (by decide +kernel)) (by decide +kernel)⟩
theorem f_B_354 : jm_FG "BargainTree" 354 3 0 (.object "BargainTree$Agent") := ⟨"BargainTree$Child", jm_F3, 3, rfl, by decide, jm_yok3 0 (by decide), jm_in (List.mem_of_getElem? (i := 434) (by decide +kernel)) (by decide +kernel)⟩
theorem f_B_304 : jm_FL "BargainTree" 304 3 1 false .int := ⟨"BargainTree$Child", jm_F3, 3, rfl, by decide, rfl, jm_yok3 1 (by decide), jm_in (List.mem_of_getElem? (i := 435) (by decide +kernel)) (by decide +kernel), fun h => nomatch h⟩
theorem f_A_71 : jm_FL "BargainTree$Agent" 71 3 2 false (.array .int) := ⟨"BargainTree$Child", jm_F3, 3, rfl, by decide, rfl, jm_yok3 2 (by decide), jm_in (List.mem_of_getElem? (i := 436) (by decide +kernel)) (by decide +kernel), fun h => nomatch h⟩
theorem f_B_307 : jm_FL "BargainTree" 307 3 2 false (.array .int) := ⟨"BargainTree$Child", jm_F3, 3, rfl, by decide, rfl, jm_yok3 2 (by decide), jm_in (List.mem_of_getElem? (i := 437) (by decide +kernel)) (by decide +kernel), fun h => nomatch h⟩
theorem f_B_180 : Cond.fieldLink "BargainTree" 180 jm_en (jm_enm 1) jm_ed ∈ jm_ws := jm_in (List.mem_of_getElem? (i := 445) (by decide +kernel)) (by decide +kernel)
theorem f_L_9 : jm_FL "BargainTree$Letter" 9 5 0 true .int := ⟨"BargainTree$Letter", jm_F5, 5, rfl, by decide, rfl, jm_yok5 0 (by decide), jm_in (List.mem_of_getElem? (i := 456) (by decide +kernel)) (by decide +kernel), fun _ => rfl⟩
theorem f_B_152 : jm_FG "BargainTree" 152 5 0 .int := ⟨"BargainTree$Letter", jm_F5, 5, rfl, by decide, jm_yok5 0 (by decide), jm_in (List.mem_of_getElem? (i := 457) (by decide +kernel)) (by decide +kernel)⟩
theorem f_L_15 : jm_FL "BargainTree$Letter" 15 5 1 true .int := ⟨"BargainTree$Letter", jm_F5, 5, rfl, by decide, rfl, jm_yok5 1 (by decide), jm_in (List.mem_of_getElem? (i := 458) (by decide +kernel)) (by decide +kernel), fun _ => rfl⟩
theorem f_B_155 : jm_FG "BargainTree" 155 5 1 .int := ⟨"BargainTree$Letter", jm_F5, 5, rfl, by decide, jm_yok5 1 (by decide), jm_in (List.mem_of_getElem? (i := 459) (by decide +kernel)) (by decide +kernel)⟩
theorem f_L_18 : jm_FL "BargainTree$Letter" 18 5 2 true .int := ⟨"BargainTree$Letter", jm_F5, 5, rfl, by decide, rfl, jm_yok5 2 (by decide), jm_in (List.mem_of_getElem? (i := 460) (by decide +kernel)) (by decide +kernel), fun _ => rfl⟩
theorem f_B_158 : jm_FG "BargainTree" 158 5 2 .int := ⟨"BargainTree$Letter", jm_F5, 5, rfl, by decide, jm_yok5 2 (by decide), jm_in (List.mem_of_getElem? (i := 461) (by decide +kernel)) (by decide +kernel)⟩
theorem f_L_21 : jm_FL "BargainTree$Letter" 21 5 3 true .int := ⟨"BargainTree$Letter", jm_F5, 5, rfl, by decide, rfl, jm_yok5 3 (by decide), jm_in (List.mem_of_getElem? (i := 462) (by decide +kernel)) (by decide +kernel), fun _ => rfl⟩
theorem f_B_161 : jm_FG "BargainTree" 161 5 3 .int := ⟨"BargainTree$Letter", jm_F5, 5, rfl, by decide, jm_yok5 3 (by decide), jm_in (List.mem_of_getElem? (i := 463) (by decide +kernel)) (by decide +kernel)⟩
theorem f_L_24 : jm_FL "BargainTree$Letter" 24 5 4 true (.array .int) := ⟨"BargainTree$Letter", jm_F5, 5, rfl, by decide, rfl, jm_yok5 4 (by decide), jm_in (List.mem_of_getElem? (i := 464) (by decide +kernel)) (by decide +kernel), fun _ => rfl⟩
theorem f_B_284 : jm_FG "BargainTree" 284 5 4 (.array .int) := ⟨"BargainTree$Letter", jm_F5, 5, rfl, by decide, jm_yok5 4 (by decide), jm_in (List.mem_of_getElem? (i := 465) (by decide +kernel)) (by decide +kernel)⟩
theorem f_B_291 : Cond.fieldLink "BargainTree" 291 jm_en (jm_enm 0) jm_ed ∈ jm_ws := jm_in (List.mem_of_getElem? (i := 591) (by decide +kernel)) (by decide +kernel)
theorem f_M_116 : jm_FL "BargainTreeModel" 116 6 0 false .int := ⟨"BargainTreeModel", jm_F6, 42, rfl, by decide, rfl, jm_yok6 0 (by decide), jm_in (List.mem_of_getElem? (i := 627) (by decide +kernel)) (by decide +kernel), fun h => nomatch h⟩
theorem f_M_124 : jm_FL "BargainTreeModel" 124 6 1 false .int := ⟨"BargainTreeModel", jm_F6, 42, rfl, by decide, rfl, jm_yok6 1 (by decide), jm_in (List.mem_of_getElem? (i := 628) (by decide +kernel)) (by decide +kernel), fun h => nomatch h⟩
theorem f_M_135 : jm_FL "BargainTreeModel" 135 6 2 false .boolean := ⟨"BargainTreeModel", jm_F6, 42, rfl, by decide, rfl, jm_yok6 2 (by decide), jm_in (List.mem_of_getElem? (i := 629) (by decide +kernel)) (by decide +kernel), fun h => nomatch h⟩
theorem f_M_7 : jm_FL "BargainTreeModel" 7 6 3 true (.array .int) := ⟨"BargainTreeModel", jm_F6, 42, rfl, by decide, rfl, jm_yok6 3 (by decide), jm_in (List.mem_of_getElem? (i := 630) (by decide +kernel)) (by decide +kernel), fun _ => rfl⟩
theorem f_M_13 : jm_FL "BargainTreeModel" 13 6 4 true (.array .int) := ⟨"BargainTreeModel", jm_F6, 42, rfl, by decide, rfl, jm_yok6 4 (by decide), jm_in (List.mem_of_getElem? (i := 631) (by decide +kernel)) (by decide +kernel), fun _ => rfl⟩
theorem f_M_146 : jm_FL "BargainTreeModel" 146 6 5 false .int := ⟨"BargainTreeModel", jm_F6, 42, rfl, by decide, rfl, jm_yok6 5 (by decide), jm_in (List.mem_of_getElem? (i := 632) (by decide +kernel)) (by decide +kernel), fun h => nomatch h⟩
theorem f_M_16 : jm_FL "BargainTreeModel" 16 6 6 true (.array .int) := ⟨"BargainTreeModel", jm_F6, 42, rfl, by decide, rfl, jm_yok6 6 (by decide), jm_in (List.mem_of_getElem? (i := 633) (by decide +kernel)) (by decide +kernel), fun _ => rfl⟩
theorem f_M_19 : jm_FL "BargainTreeModel" 19 6 7 true (.array .int) := ⟨"BargainTreeModel", jm_F6, 42, rfl, by decide, rfl, jm_yok6 7 (by decide), jm_in (List.mem_of_getElem? (i := 634) (by decide +kernel)) (by decide +kernel), fun _ => rfl⟩
theorem f_M_22 : jm_FL "BargainTreeModel" 22 6 8 true (.array .int) := ⟨"BargainTreeModel", jm_F6, 42, rfl, by decide, rfl, jm_yok6 8 (by decide), jm_in (List.mem_of_getElem? (i := 635) (by decide +kernel)) (by decide +kernel), fun _ => rfl⟩
theorem f_M_25 : jm_FL "BargainTreeModel" 25 6 9 true (.array .int) := ⟨"BargainTreeModel", jm_F6, 42, rfl, by decide, rfl, jm_yok6 9 (by decide), jm_in (List.mem_of_getElem? (i := 636) (by decide +kernel)) (by decide +kernel), fun _ => rfl⟩
theorem f_M_28 : jm_FL "BargainTreeModel" 28 6 10 true (.array .int) := ⟨"BargainTreeModel", jm_F6, 42, rfl, by decide, rfl, jm_yok6 10 (by decide), jm_in (List.mem_of_getElem? (i := 637) (by decide +kernel)) (by decide +kernel), fun _ => rfl⟩
theorem f_M_31 : jm_FL "BargainTreeModel" 31 6 11 true (.array .int) := ⟨"BargainTreeModel", jm_F6, 42, rfl, by decide, rfl, jm_yok6 11 (by decide), jm_in (List.mem_of_getElem? (i := 638) (by decide +kernel)) (by decide +kernel), fun _ => rfl⟩
theorem f_M_34 : jm_FL "BargainTreeModel" 34 6 12 true (.array .int) := ⟨"BargainTreeModel", jm_F6, 42, rfl, by decide, rfl, jm_yok6 12 (by decide), jm_in (List.mem_of_getElem? (i := 639) (by decide +kernel)) (by decide +kernel), fun _ => rfl⟩
theorem f_M_37 : jm_FL "BargainTreeModel" 37 6 13 true (.array .boolean) := ⟨"BargainTreeModel", jm_F6, 42, rfl, by decide, rfl, jm_yok6 13 (by decide), jm_in (List.mem_of_getElem? (i := 640) (by decide +kernel)) (by decide +kernel), fun _ => rfl⟩
theorem f_M_41 : jm_FL "BargainTreeModel" 41 6 14 true (.array .boolean) := ⟨"BargainTreeModel", jm_F6, 42, rfl, by decide, rfl, jm_yok6 14 (by decide), jm_in (List.mem_of_getElem? (i := 641) (by decide +kernel)) (by decide +kernel), fun _ => rfl⟩
theorem f_M_44 : jm_FL "BargainTreeModel" 44 6 15 true (.array .boolean) := ⟨"BargainTreeModel", jm_F6, 42, rfl, by decide, rfl, jm_yok6 15 (by decide), jm_in (List.mem_of_getElem? (i := 642) (by decide +kernel)) (by decide +kernel), fun _ => rfl⟩
theorem f_M_47 : jm_FL "BargainTreeModel" 47 6 16 true (.array .int) := ⟨"BargainTreeModel", jm_F6, 42, rfl, by decide, rfl, jm_yok6 16 (by decide), jm_in (List.mem_of_getElem? (i := 643) (by decide +kernel)) (by decide +kernel), fun _ => rfl⟩
theorem f_M_50 : jm_FL "BargainTreeModel" 50 6 17 true (.array .int) := ⟨"BargainTreeModel", jm_F6, 42, rfl, by decide, rfl, jm_yok6 17 (by decide), jm_in (List.mem_of_getElem? (i := 644) (by decide +kernel)) (by decide +kernel), fun _ => rfl⟩
theorem f_M_53 : jm_FL "BargainTreeModel" 53 6 18 true (.array .int) := ⟨"BargainTreeModel", jm_F6, 42, rfl, by decide, rfl, jm_yok6 18 (by decide), jm_in (List.mem_of_getElem? (i := 645) (by decide +kernel)) (by decide +kernel), fun _ => rfl⟩
theorem f_M_56 : jm_FL "BargainTreeModel" 56 6 19 true (.array .int) := ⟨"BargainTreeModel", jm_F6, 42, rfl, by decide, rfl, jm_yok6 19 (by decide), jm_in (List.mem_of_getElem? (i := 646) (by decide +kernel)) (by decide +kernel), fun _ => rfl⟩
theorem f_M_59 : jm_FL "BargainTreeModel" 59 6 20 true (.array .int) := ⟨"BargainTreeModel", jm_F6, 42, rfl, by decide, rfl, jm_yok6 20 (by decide), jm_in (List.mem_of_getElem? (i := 647) (by decide +kernel)) (by decide +kernel), fun _ => rfl⟩
theorem f_M_62 : jm_FL "BargainTreeModel" 62 6 21 true (.array .int) := ⟨"BargainTreeModel", jm_F6, 42, rfl, by decide, rfl, jm_yok6 21 (by decide), jm_in (List.mem_of_getElem? (i := 648) (by decide +kernel)) (by decide +kernel), fun _ => rfl⟩
theorem f_M_65 : jm_FL "BargainTreeModel" 65 6 22 true (.array .int) := ⟨"BargainTreeModel", jm_F6, 42, rfl, by decide, rfl, jm_yok6 22 (by decide), jm_in (List.mem_of_getElem? (i := 649) (by decide +kernel)) (by decide +kernel), fun _ => rfl⟩
theorem f_M_68 : jm_FL "BargainTreeModel" 68 6 23 true (.array .int) := ⟨"BargainTreeModel", jm_F6, 42, rfl, by decide, rfl, jm_yok6 23 (by decide), jm_in (List.mem_of_getElem? (i := 650) (by decide +kernel)) (by decide +kernel), fun _ => rfl⟩
theorem f_M_71 : jm_FL "BargainTreeModel" 71 6 24 true (.array .int) := ⟨"BargainTreeModel", jm_F6, 42, rfl, by decide, rfl, jm_yok6 24 (by decide), jm_in (List.mem_of_getElem? (i := 651) (by decide +kernel)) (by decide +kernel), fun _ => rfl⟩
theorem f_M_74 : jm_FL "BargainTreeModel" 74 6 25 true (.array .int) := ⟨"BargainTreeModel", jm_F6, 42, rfl, by decide, rfl, jm_yok6 25 (by decide), jm_in (List.mem_of_getElem? (i := 652) (by decide +kernel)) (by decide +kernel), fun _ => rfl⟩
theorem f_M_77 : jm_FL "BargainTreeModel" 77 6 26 true (.array .int) := ⟨"BargainTreeModel", jm_F6, 42, rfl, by decide, rfl, jm_yok6 26 (by decide), jm_in (List.mem_of_getElem? (i := 653) (by decide +kernel)) (by decide +kernel), fun _ => rfl⟩
theorem f_M_205 : jm_FL "BargainTreeModel" 205 6 27 false .int := ⟨"BargainTreeModel", jm_F6, 42, rfl, by decide, rfl, jm_yok6 27 (by decide), jm_in (List.mem_of_getElem? (i := 654) (by decide +kernel)) (by decide +kernel), fun h => nomatch h⟩
theorem f_M_80 : jm_FL "BargainTreeModel" 80 6 28 true (.array .int) := ⟨"BargainTreeModel", jm_F6, 42, rfl, by decide, rfl, jm_yok6 28 (by decide), jm_in (List.mem_of_getElem? (i := 655) (by decide +kernel)) (by decide +kernel), fun _ => rfl⟩
theorem f_M_83 : jm_FL "BargainTreeModel" 83 6 29 true (.array .int) := ⟨"BargainTreeModel", jm_F6, 42, rfl, by decide, rfl, jm_yok6 29 (by decide), jm_in (List.mem_of_getElem? (i := 656) (by decide +kernel)) (by decide +kernel), fun _ => rfl⟩
theorem f_M_86 : jm_FL "BargainTreeModel" 86 6 30 true (.array .int) := ⟨"BargainTreeModel", jm_F6, 42, rfl, by decide, rfl, jm_yok6 30 (by decide), jm_in (List.mem_of_getElem? (i := 657) (by decide +kernel)) (by decide +kernel), fun _ => rfl⟩
theorem f_M_89 : jm_FL "BargainTreeModel" 89 6 31 true (.array .int) := ⟨"BargainTreeModel", jm_F6, 42, rfl, by decide, rfl, jm_yok6 31 (by decide), jm_in (List.mem_of_getElem? (i := 658) (by decide +kernel)) (by decide +kernel), fun _ => rfl⟩
theorem f_M_92 : jm_FL "BargainTreeModel" 92 6 32 true (.array .int) := ⟨"BargainTreeModel", jm_F6, 42, rfl, by decide, rfl, jm_yok6 32 (by decide), jm_in (List.mem_of_getElem? (i := 659) (by decide +kernel)) (by decide +kernel), fun _ => rfl⟩
theorem f_M_193 : jm_FL "BargainTreeModel" 193 6 33 false .int := ⟨"BargainTreeModel", jm_F6, 42, rfl, by decide, rfl, jm_yok6 33 (by decide), jm_in (List.mem_of_getElem? (i := 660) (by decide +kernel)) (by decide +kernel), fun h => nomatch h⟩
theorem f_M_176 : jm_FL "BargainTreeModel" 176 6 34 false .int := ⟨"BargainTreeModel", jm_F6, 42, rfl, by decide, rfl, jm_yok6 34 (by decide), jm_in (List.mem_of_getElem? (i := 661) (by decide +kernel)) (by decide +kernel), fun h => nomatch h⟩
theorem f_M_95 : jm_FL "BargainTreeModel" 95 6 35 true (.array .int) := ⟨"BargainTreeModel", jm_F6, 42, rfl, by decide, rfl, jm_yok6 35 (by decide), jm_in (List.mem_of_getElem? (i := 662) (by decide +kernel)) (by decide +kernel), fun _ => rfl⟩
theorem f_M_98 : jm_FL "BargainTreeModel" 98 6 36 true (.array .int) := ⟨"BargainTreeModel", jm_F6, 42, rfl, by decide, rfl, jm_yok6 36 (by decide), jm_in (List.mem_of_getElem? (i := 663) (by decide +kernel)) (by decide +kernel), fun _ => rfl⟩
theorem f_M_101 : jm_FL "BargainTreeModel" 101 6 37 true (.array .int) := ⟨"BargainTreeModel", jm_F6, 42, rfl, by decide, rfl, jm_yok6 37 (by decide), jm_in (List.mem_of_getElem? (i := 664) (by decide +kernel)) (by decide +kernel), fun _ => rfl⟩
theorem f_M_104 : jm_FL "BargainTreeModel" 104 6 38 true (.array .int) := ⟨"BargainTreeModel", jm_F6, 42, rfl, by decide, rfl, jm_yok6 38 (by decide), jm_in (List.mem_of_getElem? (i := 665) (by decide +kernel)) (by decide +kernel), fun _ => rfl⟩
theorem f_M_107 : jm_FL "BargainTreeModel" 107 6 39 true (.array .int) := ⟨"BargainTreeModel", jm_F6, 42, rfl, by decide, rfl, jm_yok6 39 (by decide), jm_in (List.mem_of_getElem? (i := 666) (by decide +kernel)) (by decide +kernel), fun _ => rfl⟩
theorem f_M_110 : jm_FL "BargainTreeModel" 110 6 40 true (.array .int) := ⟨"BargainTreeModel", jm_F6, 42, rfl, by decide, rfl, jm_yok6 40 (by decide), jm_in (List.mem_of_getElem? (i := 667) (by decide +kernel)) (by decide +kernel), fun _ => rfl⟩
theorem f_M_113 : jm_FL "BargainTreeModel" 113 6 41 true (.array .int) := ⟨"BargainTreeModel", jm_F6, 42, rfl, by decide, rfl, jm_yok6 41 (by decide), jm_in (List.mem_of_getElem? (i := 668) (by decide +kernel)) (by decide +kernel), fun _ => rfl⟩
theorem l_W_45 : Cond.methodLink "BargainTreeLaw" 45 m_B_init.1 ∈ jm_ws := jm_in (List.mem_of_getElem? (i := 21) (by decide +kernel)) (by decide +kernel)
theorem l_B_1 : Cond.methodLink "BargainTree" 1 Lib.objectInit ∈ jm_ws := jm_in (List.mem_of_getElem? (i := 24) (by decide +kernel)) (by decide +kernel)
theorem l_W_77 : Cond.methodLink "BargainTreeLaw" 77 m_B_told.1 ∈ jm_ws := jm_in (List.mem_of_getElem? (i := 62) (by decide +kernel)) (by decide +kernel)
theorem l_B_131 : Cond.methodLink "BargainTree" 131 m_B_isLetter.1 ∈ jm_ws := jm_in (List.mem_of_getElem? (i := 66) (by decide +kernel)) (by decide +kernel)
theorem l_B_164 : Cond.methodLink "BargainTree" 164 m_L_contentCount.1 ∈ jm_ws := jm_in (List.mem_of_getElem? (i := 70) (by decide +kernel)) (by decide +kernel)
theorem l_B_168 : Cond.methodLink "BargainTree" 168 m_L_contentAt.1 ∈ jm_ws := jm_in (List.mem_of_getElem? (i := 74) (by decide +kernel)) (by decide +kernel)
theorem l_W_88 : Cond.methodLink "BargainTreeLaw" 88 m_B_done.1 ∈ jm_ws := jm_in (List.mem_of_getElem? (i := 78) (by decide +kernel)) (by decide +kernel)
theorem l_B_233 : Cond.methodLink "BargainTree" 233 m_P_foundNone.1 ∈ jm_ws := jm_in (List.mem_of_getElem? (i := 82) (by decide +kernel)) (by decide +kernel)
theorem l_B_236 : Cond.methodLink "BargainTree" 236 m_A_isSettled.1 ∈ jm_ws := jm_in (List.mem_of_getElem? (i := 86) (by decide +kernel)) (by decide +kernel)
theorem l_W_92 : Cond.methodLink "BargainTreeLaw" 92 m_B_value.1 ∈ jm_ws := jm_in (List.mem_of_getElem? (i := 90) (by decide +kernel)) (by decide +kernel)
theorem l_B_69 : Cond.methodLink "BargainTree" 69 m_B_isAgent.1 ∈ jm_ws := jm_in (List.mem_of_getElem? (i := 94) (by decide +kernel)) (by decide +kernel)
theorem l_W_96 : Cond.methodLink "BargainTreeLaw" 96 m_B_total.1 ∈ jm_ws := jm_in (List.mem_of_getElem? (i := 98) (by decide +kernel)) (by decide +kernel)
theorem l_B_207 : Cond.methodLink "BargainTree" 207 m_B_done.1 ∈ jm_ws := jm_in (List.mem_of_getElem? (i := 102) (by decide +kernel)) (by decide +kernel)
theorem l_B_114 : Cond.methodLink "BargainTree" 114 m_A_isRoot.1 ∈ jm_ws := jm_in (List.mem_of_getElem? (i := 103) (by decide +kernel)) (by decide +kernel)
theorem l_W_100 : Cond.methodLink "BargainTreeLaw" 100 m_B_parent.1 ∈ jm_ws := jm_in (List.mem_of_getElem? (i := 107) (by decide +kernel)) (by decide +kernel)
theorem l_W_104 : Cond.methodLink "BargainTreeLaw" 104 m_B_separator.1 ∈ jm_ws := jm_in (List.mem_of_getElem? (i := 111) (by decide +kernel)) (by decide +kernel)
theorem l_W_108 : Cond.methodLink "BargainTreeLaw" 108 m_B_entries.1 ∈ jm_ws := jm_in (List.mem_of_getElem? (i := 117) (by decide +kernel)) (by decide +kernel)
theorem l_W_112 : Cond.methodLink "BargainTreeLaw" 112 m_B_tables.1 ∈ jm_ws := jm_in (List.mem_of_getElem? (i := 121) (by decide +kernel)) (by decide +kernel)
theorem l_W_49 : Cond.methodLink "BargainTreeLaw" 49 m_W_agent.1 ∈ jm_ws := jm_in (List.mem_of_getElem? (i := 125) (by decide +kernel)) (by decide +kernel)
theorem l_W_7 : Cond.methodLink "BargainTreeLaw" 7 m_B_agent.1 ∈ jm_ws := jm_in (List.mem_of_getElem? (i := 130) (by decide +kernel)) (by decide +kernel)
theorem l_B_39 : Cond.methodLink "BargainTree" 39 ⟨"java/lang/IllegalArgumentException", "<init>", "(Ljava/lang/String;)V"⟩ ∈ jm_ws := jm_in (List.mem_of_getElem? (i := 176) (by decide +kernel)) (by decide +kernel)
theorem l_B_50 : Cond.methodLink "BargainTree" 50 ⟨"java/lang/IllegalStateException", "<init>", "(Ljava/lang/String;)V"⟩ ∈ jm_ws := jm_in (List.mem_of_getElem? (i := 212) (by decide +kernel)) (by decide +kernel)
theorem l_B_51 : Cond.methodLink "BargainTree" 51 m_A_init.1 ∈ jm_ws := jm_in (List.mem_of_getElem? (i := 219) (by decide +kernel)) (by decide +kernel)
theorem l_A_3 : Cond.methodLink "BargainTree$Agent" 3 Lib.objectInit ∈ jm_ws := jm_in (List.mem_of_getElem? (i := 222) (by decide +kernel)) (by decide +kernel)
theorem l_W_58 : Cond.methodLink "BargainTreeLaw" 58 m_W_own.1 ∈ jm_ws := jm_in (List.mem_of_getElem? (i := 297) (by decide +kernel)) (by decide +kernel)
theorem l_W_17 : Cond.methodLink "BargainTreeLaw" 17 m_B_own.1 ∈ jm_ws := jm_in (List.mem_of_getElem? (i := 300) (by decide +kernel)) (by decide +kernel)
theorem l_B_54 : Cond.methodLink "BargainTree" 54 m_B_isValue.1 ∈ jm_ws := jm_in (List.mem_of_getElem? (i := 304) (by decide +kernel)) (by decide +kernel)
theorem l_B_58 : Cond.methodLink "BargainTree" 58 m_B_isCost.1 ∈ jm_ws := jm_in (List.mem_of_getElem? (i := 308) (by decide +kernel)) (by decide +kernel)
theorem l_W_62 : Cond.methodLink "BargainTreeLaw" 62 m_W_pair.1 ∈ jm_ws := jm_in (List.mem_of_getElem? (i := 313) (by decide +kernel)) (by decide +kernel)
theorem l_W_21 : Cond.methodLink "BargainTreeLaw" 21 m_B_pair.1 ∈ jm_ws := jm_in (List.mem_of_getElem? (i := 316) (by decide +kernel)) (by decide +kernel)
theorem l_B_77 : Cond.methodLink "BargainTree" 77 m_B_pairOf.1 ∈ jm_ws := jm_in (List.mem_of_getElem? (i := 321) (by decide +kernel)) (by decide +kernel)
theorem l_B_83 : Cond.methodLink "BargainTree" 83 m_J_min.1 ∈ jm_ws := jm_in (List.mem_of_getElem? (i := 325) (by decide +kernel)) (by decide +kernel)
theorem l_B_89 : Cond.methodLink "BargainTree" 89 m_J_max.1 ∈ jm_ws := jm_in (List.mem_of_getElem? (i := 328) (by decide +kernel)) (by decide +kernel)
theorem l_B_92 : Cond.methodLink "BargainTree" 92 m_Q_init.1 ∈ jm_ws := jm_in (List.mem_of_getElem? (i := 333) (by decide +kernel)) (by decide +kernel)
theorem l_Q_3 : Cond.methodLink "BargainTree$Pair" 3 Lib.objectInit ∈ jm_ws := jm_in (List.mem_of_getElem? (i := 336) (by decide +kernel)) (by decide +kernel)
theorem l_W_66 : Cond.methodLink "BargainTreeLaw" 66 m_W_cost.1 ∈ jm_ws := jm_in (List.mem_of_getElem? (i := 350) (by decide +kernel)) (by decide +kernel)
theorem l_W_25 : Cond.methodLink "BargainTreeLaw" 25 m_B_cost.1 ∈ jm_ws := jm_in (List.mem_of_getElem? (i := 353) (by decide +kernel)) (by decide +kernel)
theorem l_B_96 : Cond.methodLink "BargainTree" 96 m_B_pairWith.1 ∈ jm_ws := jm_in (List.mem_of_getElem? (i := 357) (by decide +kernel)) (by decide +kernel)
theorem l_B_105 : Cond.methodLink "BargainTree" 105 m_Q_place.1 ∈ jm_ws := jm_in (List.mem_of_getElem? (i := 362) (by decide +kernel)) (by decide +kernel)
theorem l_W_70 : Cond.methodLink "BargainTreeLaw" 70 m_W_start.1 ∈ jm_ws := jm_in (List.mem_of_getElem? (i := 366) (by decide +kernel)) (by decide +kernel)
theorem l_W_29 : Cond.methodLink "BargainTreeLaw" 29 m_B_start.1 ∈ jm_ws := jm_in (List.mem_of_getElem? (i := 369) (by decide +kernel)) (by decide +kernel)
theorem l_B_111 : Cond.methodLink "BargainTree" 111 m_B_findParts.1 ∈ jm_ws := jm_in (List.mem_of_getElem? (i := 374) (by decide +kernel)) (by decide +kernel)
theorem l_B_254 : Cond.methodLink "BargainTree" 254 m_B_partOf.1 ∈ jm_ws := jm_in (List.mem_of_getElem? (i := 378) (by decide +kernel)) (by decide +kernel)
theorem l_B_227 : Cond.methodLink "BargainTree" 227 m_B_contains.1 ∈ jm_ws := jm_in (List.mem_of_getElem? (i := 382) (by decide +kernel)) (by decide +kernel)
theorem l_B_257 : Cond.methodLink "BargainTree" 257 m_B_mostJoined.1 ∈ jm_ws := jm_in (List.mem_of_getElem? (i := 387) (by decide +kernel)) (by decide +kernel)
theorem l_B_266 : Cond.methodLink "BargainTree" 266 m_J_bitCount.1 ∈ jm_ws := jm_in (List.mem_of_getElem? (i := 391) (by decide +kernel)) (by decide +kernel)
theorem l_B_260 : Cond.methodLink "BargainTree" 260 m_P_init.1 ∈ jm_ws := jm_in (List.mem_of_getElem? (i := 397) (by decide +kernel)) (by decide +kernel)
theorem l_P_3 : Cond.methodLink "BargainTree$Part" 3 Lib.objectInit ∈ jm_ws := jm_in (List.mem_of_getElem? (i := 400) (by decide +kernel)) (by decide +kernel)
theorem l_B_262 : Cond.methodLink "BargainTree" 262 m_B_join.1 ∈ jm_ws := jm_in (List.mem_of_getElem? (i := 415) (by decide +kernel)) (by decide +kernel)
theorem l_B_121 : Cond.methodLink "BargainTree" 121 m_B_hold.1 ∈ jm_ws := jm_in (List.mem_of_getElem? (i := 419) (by decide +kernel)) (by decide +kernel)
theorem l_B_311 : Cond.methodLink "BargainTree" 311 m_A_addChild.1 ∈ jm_ws := jm_in (List.mem_of_getElem? (i := 423) (by decide +kernel)) (by decide +kernel)
theorem l_A_65 : Cond.methodLink "BargainTree$Agent" 65 m_C_init.1 ∈ jm_ws := jm_in (List.mem_of_getElem? (i := 428) (by decide +kernel)) (by decide +kernel)
theorem l_C_1 : Cond.methodLink "BargainTree$Child" 1 Lib.objectInit ∈ jm_ws := jm_in (List.mem_of_getElem? (i := 431) (by decide +kernel)) (by decide +kernel)
theorem l_B_185 : Cond.methodLink "BargainTree" 185 m_B_sendToken.1 ∈ jm_ws := jm_in (List.mem_of_getElem? (i := 447) (by decide +kernel)) (by decide +kernel)
theorem l_B_376 : Cond.methodLink "BargainTree" 376 m_L_init.1 ∈ jm_ws := jm_in (List.mem_of_getElem? (i := 452) (by decide +kernel)) (by decide +kernel)
theorem l_L_3 : Cond.methodLink "BargainTree$Letter" 3 Lib.objectInit ∈ jm_ws := jm_in (List.mem_of_getElem? (i := 455) (by decide +kernel)) (by decide +kernel)
theorem l_B_379 : Cond.methodLink "BargainTree" 379 m_B_send.1 ∈ jm_ws := jm_in (List.mem_of_getElem? (i := 477) (by decide +kernel)) (by decide +kernel)
theorem l_B_314 : Cond.methodLink "BargainTree" 314 m_A_findSeparator.1 ∈ jm_ws := jm_in (List.mem_of_getElem? (i := 481) (by decide +kernel)) (by decide +kernel)
theorem l_B_192 : Cond.methodLink "BargainTree" 192 m_B_sendBack.1 ∈ jm_ws := jm_in (List.mem_of_getElem? (i := 485) (by decide +kernel)) (by decide +kernel)
theorem l_B_308 : Cond.methodLink "BargainTree" 308 m_A_hasAllTables.1 ∈ jm_ws := jm_in (List.mem_of_getElem? (i := 489) (by decide +kernel)) (by decide +kernel)
theorem l_B_125 : Cond.methodLink "BargainTree" 125 m_B_makeTable.1 ∈ jm_ws := jm_in (List.mem_of_getElem? (i := 493) (by decide +kernel)) (by decide +kernel)
theorem l_B_317 : Cond.methodLink "BargainTree" 317 m_B_tableSize.1 ∈ jm_ws := jm_in (List.mem_of_getElem? (i := 497) (by decide +kernel)) (by decide +kernel)
theorem l_B_320 : Cond.methodLink "BargainTree" 320 m_B_tryEntry.1 ∈ jm_ws := jm_in (List.mem_of_getElem? (i := 501) (by decide +kernel)) (by decide +kernel)
theorem l_B_323 : Cond.methodLink "BargainTree" 323 m_B_leastCost.1 ∈ jm_ws := jm_in (List.mem_of_getElem? (i := 505) (by decide +kernel)) (by decide +kernel)
theorem l_B_334 : Cond.methodLink "BargainTree" 334 m_B_costWith.1 ∈ jm_ws := jm_in (List.mem_of_getElem? (i := 509) (by decide +kernel)) (by decide +kernel)
theorem l_B_341 : Cond.methodLink "BargainTree" 341 m_Q_joinsUpwards.1 ∈ jm_ws := jm_in (List.mem_of_getElem? (i := 513) (by decide +kernel)) (by decide +kernel)
theorem l_Q_30 : Cond.methodLinkNest "BargainTree$Pair" 30 m_B_contains.1 "BargainTree" ∈ jm_ws := jm_in (List.mem_of_getElem? (i := 517) (by decide +kernel)) (by decide +kernel)
theorem l_B_344 : Cond.methodLink "BargainTree" 344 m_B_plus.1 ∈ jm_ws := jm_in (List.mem_of_getElem? (i := 518) (by decide +kernel)) (by decide +kernel)
theorem l_B_358 : Cond.methodLink "BargainTree" 358 m_B_entryAt.1 ∈ jm_ws := jm_in (List.mem_of_getElem? (i := 521) (by decide +kernel)) (by decide +kernel)
theorem l_B_338 : Cond.methodLink "BargainTree" 338 m_B_lesser.1 ∈ jm_ws := jm_in (List.mem_of_getElem? (i := 525) (by decide +kernel)) (by decide +kernel)
theorem l_B_330 : Cond.methodLink "BargainTree" 330 m_B_nothingTold.1 ∈ jm_ws := jm_in (List.mem_of_getElem? (i := 528) (by decide +kernel)) (by decide +kernel)
theorem l_B_362 : Cond.methodLink "BargainTree" 362 m_J_fill.1 ∈ jm_ws := jm_in (List.mem_of_getElem? (i := 531) (by decide +kernel)) (by decide +kernel)
theorem l_B_287 : Cond.methodLink "BargainTree" 287 m_B_choose.1 ∈ jm_ws := jm_in (List.mem_of_getElem? (i := 534) (by decide +kernel)) (by decide +kernel)
theorem l_B_371 : Cond.methodLink "BargainTree" 371 ⟨"[I", "clone", "()Ljava/lang/Object;"⟩ ∈ jm_ws := jm_in (List.mem_of_getElem? (i := 538) (by decide +kernel)) (by decide +kernel)
theorem l_B_204 : Cond.methodLink "BargainTree" 204 m_B_sendChoices.1 ∈ jm_ws := jm_in (List.mem_of_getElem? (i := 545) (by decide +kernel)) (by decide +kernel)
theorem l_B_198 : Cond.methodLink "BargainTree" 198 m_B_sendTable.1 ∈ jm_ws := jm_in (List.mem_of_getElem? (i := 549) (by decide +kernel)) (by decide +kernel)
theorem l_W_74 : Cond.methodLink "BargainTreeLaw" 74 m_W_letter.1 ∈ jm_ws := jm_in (List.mem_of_getElem? (i := 553) (by decide +kernel)) (by decide +kernel)
theorem l_W_33 : Cond.methodLink "BargainTreeLaw" 33 m_B_letter.1 ∈ jm_ws := jm_in (List.mem_of_getElem? (i := 557) (by decide +kernel)) (by decide +kernel)
theorem l_B_138 : Cond.methodLink "BargainTree" 138 ⟨"java/lang/IndexOutOfBoundsException", "<init>", "(Ljava/lang/String;)V"⟩ ∈ jm_ws := jm_in (List.mem_of_getElem? (i := 572) (by decide +kernel)) (by decide +kernel)
theorem l_B_144 : Cond.methodLink "BargainTree" 144 m_B_takeOut.1 ∈ jm_ws := jm_in (List.mem_of_getElem? (i := 579) (by decide +kernel)) (by decide +kernel)
theorem l_B_148 : Cond.methodLink "BargainTree" 148 m_B_deliver.1 ∈ jm_ws := jm_in (List.mem_of_getElem? (i := 583) (by decide +kernel)) (by decide +kernel)
theorem l_B_271 : Cond.methodLink "BargainTree" 271 m_B_takesToken.1 ∈ jm_ws := jm_in (List.mem_of_getElem? (i := 587) (by decide +kernel)) (by decide +kernel)
theorem l_B_275 : Cond.methodLink "BargainTree" 275 m_B_takesBack.1 ∈ jm_ws := jm_in (List.mem_of_getElem? (i := 592) (by decide +kernel)) (by decide +kernel)
theorem l_B_278 : Cond.methodLink "BargainTree" 278 m_B_takesTable.1 ∈ jm_ws := jm_in (List.mem_of_getElem? (i := 596) (by decide +kernel)) (by decide +kernel)
theorem l_B_300 : Cond.methodLink "BargainTree" 300 m_A_childWith.1 ∈ jm_ws := jm_in (List.mem_of_getElem? (i := 600) (by decide +kernel)) (by decide +kernel)
theorem l_W_81 : Cond.methodLink "BargainTreeLaw" 81 m_W_again.1 ∈ jm_ws := jm_in (List.mem_of_getElem? (i := 604) (by decide +kernel)) (by decide +kernel)
theorem l_W_38 : Cond.methodLink "BargainTreeLaw" 38 m_B_again.1 ∈ jm_ws := jm_in (List.mem_of_getElem? (i := 607) (by decide +kernel)) (by decide +kernel)
theorem l_W_84 : Cond.methodLink "BargainTreeLaw" 84 m_W_change.1 ∈ jm_ws := jm_in (List.mem_of_getElem? (i := 613) (by decide +kernel)) (by decide +kernel)
theorem l_W_41 : Cond.methodLink "BargainTreeLaw" 41 m_B_change.1 ∈ jm_ws := jm_in (List.mem_of_getElem? (i := 616) (by decide +kernel)) (by decide +kernel)
theorem l_W_48 : Cond.methodLink "BargainTreeLaw" 48 m_M_init.1 ∈ jm_ws := jm_in (List.mem_of_getElem? (i := 623) (by decide +kernel)) (by decide +kernel)
theorem l_M_1 : Cond.methodLink "BargainTreeModel" 1 Lib.objectInit ∈ jm_ws := jm_in (List.mem_of_getElem? (i := 626) (by decide +kernel)) (by decide +kernel)
theorem l_W_55 : Cond.methodLink "BargainTreeLaw" 55 m_M_thrown.1 ∈ jm_ws := jm_in (List.mem_of_getElem? (i := 755) (by decide +kernel)) (by decide +kernel)
theorem l_W_54 : Cond.methodLink "BargainTreeLaw" 54 m_M_agent.1 ∈ jm_ws := jm_in (List.mem_of_getElem? (i := 759) (by decide +kernel)) (by decide +kernel)
theorem l_M_127 : Cond.methodLink "BargainTreeModel" 127 m_M_within.1 ∈ jm_ws := jm_in (List.mem_of_getElem? (i := 763) (by decide +kernel)) (by decide +kernel)
theorem l_W_61 : Cond.methodLink "BargainTreeLaw" 61 m_M_own.1 ∈ jm_ws := jm_in (List.mem_of_getElem? (i := 766) (by decide +kernel)) (by decide +kernel)
theorem l_M_139 : Cond.methodLink "BargainTreeModel" 139 m_M_isValue.1 ∈ jm_ws := jm_in (List.mem_of_getElem? (i := 770) (by decide +kernel)) (by decide +kernel)
theorem l_M_131 : Cond.methodLink "BargainTreeModel" 131 m_M_isAgent.1 ∈ jm_ws := jm_in (List.mem_of_getElem? (i := 774) (by decide +kernel)) (by decide +kernel)
theorem l_M_142 : Cond.methodLink "BargainTreeModel" 142 m_M_isCost.1 ∈ jm_ws := jm_in (List.mem_of_getElem? (i := 778) (by decide +kernel)) (by decide +kernel)
theorem l_W_65 : Cond.methodLink "BargainTreeLaw" 65 m_M_pair.1 ∈ jm_ws := jm_in (List.mem_of_getElem? (i := 782) (by decide +kernel)) (by decide +kernel)
theorem l_M_149 : Cond.methodLink "BargainTreeModel" 149 m_M_pairOf.1 ∈ jm_ws := jm_in (List.mem_of_getElem? (i := 786) (by decide +kernel)) (by decide +kernel)
theorem l_W_69 : Cond.methodLink "BargainTreeLaw" 69 m_M_cost.1 ∈ jm_ws := jm_in (List.mem_of_getElem? (i := 790) (by decide +kernel)) (by decide +kernel)
theorem l_M_153 : Cond.methodLink "BargainTreeModel" 153 m_M_isPairCost.1 ∈ jm_ws := jm_in (List.mem_of_getElem? (i := 794) (by decide +kernel)) (by decide +kernel)
theorem l_M_157 : Cond.methodLink "BargainTreeModel" 157 m_M_setCost.1 ∈ jm_ws := jm_in (List.mem_of_getElem? (i := 798) (by decide +kernel)) (by decide +kernel)
theorem l_W_73 : Cond.methodLink "BargainTreeLaw" 73 m_M_start.1 ∈ jm_ws := jm_in (List.mem_of_getElem? (i := 802) (by decide +kernel)) (by decide +kernel)
theorem l_M_168 : Cond.methodLink "BargainTreeModel" 168 m_M_findPart.1 ∈ jm_ws := jm_in (List.mem_of_getElem? (i := 806) (by decide +kernel)) (by decide +kernel)
theorem l_M_120 : Cond.methodLink "BargainTreeModel" 120 m_M_has.1 ∈ jm_ws := jm_in (List.mem_of_getElem? (i := 810) (by decide +kernel)) (by decide +kernel)
theorem l_M_165 : Cond.methodLink "BargainTreeModel" 165 m_M_goesBefore.1 ∈ jm_ws := jm_in (List.mem_of_getElem? (i := 813) (by decide +kernel)) (by decide +kernel)
theorem l_M_161 : Cond.methodLink "BargainTreeModel" 161 m_M_bits.1 ∈ jm_ws := jm_in (List.mem_of_getElem? (i := 817) (by decide +kernel)) (by decide +kernel)
theorem l_M_172 : Cond.methodLink "BargainTreeModel" 172 m_M_receiveToken.1 ∈ jm_ws := jm_in (List.mem_of_getElem? (i := 820) (by decide +kernel)) (by decide +kernel)
theorem l_M_183 : Cond.methodLink "BargainTreeModel" 183 m_M_hold.1 ∈ jm_ws := jm_in (List.mem_of_getElem? (i := 824) (by decide +kernel)) (by decide +kernel)
theorem l_M_179 : Cond.methodLink "BargainTreeModel" 179 m_M_post.1 ∈ jm_ws := jm_in (List.mem_of_getElem? (i := 828) (by decide +kernel)) (by decide +kernel)
theorem l_M_186 : Cond.methodLink "BargainTreeModel" 186 m_M_work.1 ∈ jm_ws := jm_in (List.mem_of_getElem? (i := 832) (by decide +kernel)) (by decide +kernel)
theorem l_M_208 : Cond.methodLink "BargainTreeModel" 208 m_M_hasAll.1 ∈ jm_ws := jm_in (List.mem_of_getElem? (i := 836) (by decide +kernel)) (by decide +kernel)
theorem l_M_199 : Cond.methodLink "BargainTreeModel" 199 m_M_width.1 ∈ jm_ws := jm_in (List.mem_of_getElem? (i := 840) (by decide +kernel)) (by decide +kernel)
theorem l_M_211 : Cond.methodLink "BargainTreeModel" 211 m_M_make.1 ∈ jm_ws := jm_in (List.mem_of_getElem? (i := 844) (by decide +kernel)) (by decide +kernel)
theorem l_M_202 : Cond.methodLink "BargainTreeModel" 202 m_M_best.1 ∈ jm_ws := jm_in (List.mem_of_getElem? (i := 848) (by decide +kernel)) (by decide +kernel)
theorem l_M_196 : Cond.methodLink "BargainTreeModel" 196 m_M_costNow.1 ∈ jm_ws := jm_in (List.mem_of_getElem? (i := 852) (by decide +kernel)) (by decide +kernel)
theorem l_M_190 : Cond.methodLink "BargainTreeModel" 190 m_M_placeIn.1 ∈ jm_ws := jm_in (List.mem_of_getElem? (i := 856) (by decide +kernel)) (by decide +kernel)
theorem l_M_214 : Cond.methodLink "BargainTreeModel" 214 m_M_postTable.1 ∈ jm_ws := jm_in (List.mem_of_getElem? (i := 860) (by decide +kernel)) (by decide +kernel)
theorem l_M_217 : Cond.methodLink "BargainTreeModel" 217 m_M_choose.1 ∈ jm_ws := jm_in (List.mem_of_getElem? (i := 864) (by decide +kernel)) (by decide +kernel)
theorem l_M_220 : Cond.methodLink "BargainTreeModel" 220 m_M_postChoices.1 ∈ jm_ws := jm_in (List.mem_of_getElem? (i := 868) (by decide +kernel)) (by decide +kernel)
theorem l_W_76 : Cond.methodLink "BargainTreeLaw" 76 m_M_letter.1 ∈ jm_ws := jm_in (List.mem_of_getElem? (i := 872) (by decide +kernel)) (by decide +kernel)
theorem l_M_223 : Cond.methodLink "BargainTreeModel" 223 m_M_copyLetter.1 ∈ jm_ws := jm_in (List.mem_of_getElem? (i := 876) (by decide +kernel)) (by decide +kernel)
theorem l_M_226 : Cond.methodLink "BargainTreeModel" 226 m_M_deliver.1 ∈ jm_ws := jm_in (List.mem_of_getElem? (i := 880) (by decide +kernel)) (by decide +kernel)
theorem l_W_80 : Cond.methodLink "BargainTreeLaw" 80 m_M_told.1 ∈ jm_ws := jm_in (List.mem_of_getElem? (i := 884) (by decide +kernel)) (by decide +kernel)
theorem l_M_229 : Cond.methodLink "BargainTreeModel" 229 m_M_entryOf.1 ∈ jm_ws := jm_in (List.mem_of_getElem? (i := 888) (by decide +kernel)) (by decide +kernel)
theorem l_W_83 : Cond.methodLink "BargainTreeLaw" 83 m_M_again.1 ∈ jm_ws := jm_in (List.mem_of_getElem? (i := 892) (by decide +kernel)) (by decide +kernel)
theorem l_W_87 : Cond.methodLink "BargainTreeLaw" 87 m_M_change.1 ∈ jm_ws := jm_in (List.mem_of_getElem? (i := 896) (by decide +kernel)) (by decide +kernel)
theorem l_M_238 : Cond.methodLink "BargainTreeModel" 238 m_M_state.1 ∈ jm_ws := jm_in (List.mem_of_getElem? (i := 900) (by decide +kernel)) (by decide +kernel)
theorem l_M_232 : Cond.methodLink "BargainTreeModel" 232 m_M_isLost.1 ∈ jm_ws := jm_in (List.mem_of_getElem? (i := 904) (by decide +kernel)) (by decide +kernel)
theorem l_M_235 : Cond.methodLink "BargainTreeModel" 235 m_M_isSettled.1 ∈ jm_ws := jm_in (List.mem_of_getElem? (i := 908) (by decide +kernel)) (by decide +kernel)
theorem l_W_91 : Cond.methodLink "BargainTreeLaw" 91 m_M_done.1 ∈ jm_ws := jm_in (List.mem_of_getElem? (i := 912) (by decide +kernel)) (by decide +kernel)
theorem l_W_95 : Cond.methodLink "BargainTreeLaw" 95 m_M_value.1 ∈ jm_ws := jm_in (List.mem_of_getElem? (i := 916) (by decide +kernel)) (by decide +kernel)
theorem l_W_99 : Cond.methodLink "BargainTreeLaw" 99 m_M_total.1 ∈ jm_ws := jm_in (List.mem_of_getElem? (i := 920) (by decide +kernel)) (by decide +kernel)
theorem l_W_103 : Cond.methodLink "BargainTreeLaw" 103 m_M_parent.1 ∈ jm_ws := jm_in (List.mem_of_getElem? (i := 924) (by decide +kernel)) (by decide +kernel)
theorem l_W_107 : Cond.methodLink "BargainTreeLaw" 107 m_M_separator.1 ∈ jm_ws := jm_in (List.mem_of_getElem? (i := 928) (by decide +kernel)) (by decide +kernel)
theorem l_W_111 : Cond.methodLink "BargainTreeLaw" 111 m_M_entries.1 ∈ jm_ws := jm_in (List.mem_of_getElem? (i := 932) (by decide +kernel)) (by decide +kernel)
theorem l_W_115 : Cond.methodLink "BargainTreeLaw" 115 m_M_tables.1 ∈ jm_ws := jm_in (List.mem_of_getElem? (i := 936) (by decide +kernel)) (by decide +kernel)
theorem c_W_8 : Cond.classLink "BargainTreeLaw" 8 "BargainTree" ∈ jm_ws := jm_in (List.mem_of_getElem? (i := 19) (by decide +kernel)) (by decide +kernel)
theorem c_B_9 : Cond.classLink "BargainTree" 9 "BargainTree$Agent" ∈ jm_ws := jm_in (List.mem_of_getElem? (i := 27) (by decide +kernel)) (by decide +kernel)
theorem c_B_15 : Cond.classLink "BargainTree" 15 "BargainTree$Pair" ∈ jm_ws := jm_in (List.mem_of_getElem? (i := 29) (by decide +kernel)) (by decide +kernel)
theorem c_B_21 : Cond.classLink "BargainTree" 21 "BargainTree$Letter" ∈ jm_ws := jm_in (List.mem_of_getElem? (i := 31) (by decide +kernel)) (by decide +kernel)
theorem c_W_13 : Cond.classLink "BargainTreeLaw" 13 "java/lang/IllegalArgumentException" ∈ jm_ws := jm_in (List.mem_of_getElem? (i := 128) (by decide +kernel)) (by decide +kernel)
theorem c_W_15 : Cond.classLink "BargainTreeLaw" 15 "java/lang/IllegalStateException" ∈ jm_ws := jm_in (List.mem_of_getElem? (i := 129) (by decide +kernel)) (by decide +kernel)
theorem c_B_35 : Cond.classLink "BargainTree" 35 "java/lang/IllegalArgumentException" ∈ jm_ws := jm_in (List.mem_of_getElem? (i := 134) (by decide +kernel)) (by decide +kernel)
theorem c_B_46 : Cond.classLink "BargainTree" 46 "java/lang/IllegalStateException" ∈ jm_ws := jm_in (List.mem_of_getElem? (i := 202) (by decide +kernel)) (by decide +kernel)
theorem c_A_15 : Cond.classLink "BargainTree$Agent" 15 "BargainTree$Child" ∈ jm_ws := jm_in (List.mem_of_getElem? (i := 223) (by decide +kernel)) (by decide +kernel)
theorem c_B_217 : Cond.classLink "BargainTree" 217 "BargainTree$Part" ∈ jm_ws := jm_in (List.mem_of_getElem? (i := 385) (by decide +kernel)) (by decide +kernel)
theorem c_B_372 : Cond.classLink "BargainTree" 372 "[I" ∈ jm_ws := jm_in (List.mem_of_getElem? (i := 544) (by decide +kernel)) (by decide +kernel)
theorem c_W_36 : Cond.classLink "BargainTreeLaw" 36 "java/lang/IndexOutOfBoundsException" ∈ jm_ws := jm_in (List.mem_of_getElem? (i := 556) (by decide +kernel)) (by decide +kernel)
theorem c_B_134 : Cond.classLink "BargainTree" 134 "java/lang/IndexOutOfBoundsException" ∈ jm_ws := jm_in (List.mem_of_getElem? (i := 562) (by decide +kernel)) (by decide +kernel)
theorem c_W_46 : Cond.classLink "BargainTreeLaw" 46 "BargainTreeModel" ∈ jm_ws := jm_in (List.mem_of_getElem? (i := 621) (by decide +kernel)) (by decide +kernel)
theorem k_J_265 : Cond.constant "java/lang/Integer" 265 1431655765 ∈ jm_ws := jm_in (List.mem_of_getElem? (i := 394) (by decide +kernel)) (by decide +kernel)
theorem k_J_266 : Cond.constant "java/lang/Integer" 266 858993459 ∈ jm_ws := jm_in (List.mem_of_getElem? (i := 395) (by decide +kernel)) (by decide +kernel)
theorem k_J_267 : Cond.constant "java/lang/Integer" 267 252645135 ∈ jm_ws := jm_in (List.mem_of_getElem? (i := 396) (by decide +kernel)) (by decide +kernel)
theorem k_M_145 : Cond.constant "BargainTreeModel" 145 1048576 ∈ jm_ws := jm_in (List.mem_of_getElem? (i := 781) (by decide +kernel)) (by decide +kernel)
theorem n_B : Cond.instantiable "BargainTree" 9 ∈ jm_ws := jm_in (List.mem_of_getElem? (i := 20) (by decide +kernel)) (by decide +kernel)
theorem z_B : Cond.initialized "BargainTree" ∈ jm_ws := jm_in (List.mem_of_getElem? (i := 1) (by decide +kernel)) (by decide +kernel)
theorem n_A : Cond.instantiable "BargainTree$Agent" 18 ∈ jm_ws := jm_in (List.mem_of_getElem? (i := 218) (by decide +kernel)) (by decide +kernel)
theorem z_A : Cond.initialized "BargainTree$Agent" ∈ jm_ws := jm_in (List.mem_of_getElem? (i := 8) (by decide +kernel)) (by decide +kernel)
theorem n_P : Cond.instantiable "BargainTree$Part" 3 ∈ jm_ws := jm_in (List.mem_of_getElem? (i := 386) (by decide +kernel)) (by decide +kernel)
theorem z_P : Cond.initialized "BargainTree$Part" ∈ jm_ws := jm_in (List.mem_of_getElem? (i := 13) (by decide +kernel)) (by decide +kernel)
theorem n_C : Cond.instantiable "BargainTree$Child" 3 ∈ jm_ws := jm_in (List.mem_of_getElem? (i := 427) (by decide +kernel)) (by decide +kernel)
theorem z_C : Cond.initialized "BargainTree$Child" ∈ jm_ws := jm_in (List.mem_of_getElem? (i := 15) (by decide +kernel)) (by decide +kernel)
theorem n_Q : Cond.instantiable "BargainTree$Pair" 3 ∈ jm_ws := jm_in (List.mem_of_getElem? (i := 332) (by decide +kernel)) (by decide +kernel)
theorem z_Q : Cond.initialized "BargainTree$Pair" ∈ jm_ws := jm_in (List.mem_of_getElem? (i := 12) (by decide +kernel)) (by decide +kernel)
theorem n_L : Cond.instantiable "BargainTree$Letter" 5 ∈ jm_ws := jm_in (List.mem_of_getElem? (i := 451) (by decide +kernel)) (by decide +kernel)
theorem z_L : Cond.initialized "BargainTree$Letter" ∈ jm_ws := jm_in (List.mem_of_getElem? (i := 16) (by decide +kernel)) (by decide +kernel)
theorem n_M : Cond.instantiable "BargainTreeModel" 42 ∈ jm_ws := jm_in (List.mem_of_getElem? (i := 622) (by decide +kernel)) (by decide +kernel)
theorem z_M : Cond.initialized "BargainTreeModel" ∈ jm_ws := jm_in (List.mem_of_getElem? (i := 2) (by decide +kernel)) (by decide +kernel)
theorem ao_Agent : Cond.arrayOver (.object "BargainTree$Agent") ∈ jm_ws := jm_in (List.mem_of_getElem? (i := 28) (by decide +kernel)) (by decide +kernel)
theorem ao_Pair : Cond.arrayOver (.object "BargainTree$Pair") ∈ jm_ws := jm_in (List.mem_of_getElem? (i := 30) (by decide +kernel)) (by decide +kernel)
theorem ao_Letter : Cond.arrayOver (.object "BargainTree$Letter") ∈ jm_ws := jm_in (List.mem_of_getElem? (i := 32) (by decide +kernel)) (by decide +kernel)
theorem ao_Child : Cond.arrayOver (.object "BargainTree$Child") ∈ jm_ws := jm_in (List.mem_of_getElem? (i := 224) (by decide +kernel)) (by decide +kernel)
theorem ac_int : Cond.arrayClass .int ∈ jm_ws := jm_in (List.mem_of_getElem? (i := 61) (by decide +kernel)) (by decide +kernel)
theorem ac_boolean : Cond.arrayClass .boolean ∈ jm_ws := jm_in (List.mem_of_getElem? (i := 754) (by decide +kernel)) (by decide +kernel)
theorem ac_long : Cond.arrayClass .long ∈ jm_ws := jm_in (List.mem_of_getElem? (i := 940) (by decide +kernel)) (by decide +kernel)
theorem cl_same : Cond.sameMethod "[I" "java/lang/Object" "clone" "()Ljava/lang/Object;" ∈ jm_ws := jm_in (List.mem_of_getElem? (i := 539) (by decide +kernel)) (by decide +kernel)
theorem cl_nat : Cond.native ⟨"java/lang/Object", "clone", "()Ljava/lang/Object;"⟩ ∈ jm_ws := jm_in (List.mem_of_getElem? (i := 540) (by decide +kernel)) (by decide +kernel)
theorem cl_inst : Cond.instanceMethod ⟨"java/lang/Object", "clone", "()Ljava/lang/Object;"⟩ ∈ jm_ws := jm_in (List.mem_of_getElem? (i := 541) (by decide +kernel)) (by decide +kernel)
theorem cl_sel : Cond.selects "[I" ⟨"[I", "clone", "()Ljava/lang/Object;"⟩ ⟨"java/lang/Object", "clone", "()Ljava/lang/Object;"⟩ ∈ jm_ws := jm_in (List.mem_of_getElem? (i := 542) (by decide +kernel)) (by decide +kernel)
theorem cl_cast : Cond.castable "[I" "java/lang/Cloneable" ∈ jm_ws := jm_in (List.mem_of_getElem? (i := 543) (by decide +kernel)) (by decide +kernel)
